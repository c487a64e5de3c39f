/-! what is fixed in the heap below z (statics, constant texts), and the two kinds of contract over the flat store -/
def xsN : Nat := 19
def xsO : List String := [RX7, RX7, RX7, RX7, RX7, RX7, RX7, RX7, RX7, RX7, RX7, RX7, RX3, RX3, RX3, RX3, RX3, RX3, RX8]
def xsI : List Nat := [136, 181, 201, 209, 227, 271, 277, 303, 305, 311, 325, 328, 65, 67, 69, 71, 73, 75, 127]
def xsT : List String := ["there is no such owner", "the line has no such index", "the text has an error", "an order is refused", "there is no such reason", "no pledge is running", "no pledge was made", "there is no such ticket", "a number is out of range", "this is refused", "this cannot be done now", "there is no such place", "1=3/3", "2", "2=3", "2=4", "1", "", "plrs"]
def xsB : List (List Int32) := xsT.map (fun t => t.toList.map (fun ch => Int32.ofNat ch.toNat))
def xsL : List Nat := xsT.map (fun t => t.toList.length)
def xdT : Nat → Value := fun j => .int (Int32.ofNat (48 + j / 10))
def xdO : Nat → Value := fun j => .int (Int32.ofNat (48 + j % 10))
/-- the six exceptions, by their numbers from 1 -/
def xExc : List String := ["java/lang/IndexOutOfBoundsException", "java/lang/IllegalArgumentException", "java/lang/UnsupportedOperationException", "java/util/NoSuchElementException", "java/lang/IllegalStateException", "java/lang/ArithmeticException"]
def xE (k : Nat) : String := xExc.getD (k - 1) ""
/-- words that are kept, but not among the good ones -/
def xBad : List Cond := [.methodLinkNest RX0 17 yX5_init RX7, .methodLinkNest RX7 35 yX1_init RX7, .methodLinkNest RX7 42 yX4_init RX7, .methodLinkNest RX3 21 yX4_init RX7, .methodLinkNest RX7 56 yX6_init RX7, .methodLinkNest RX1 47 yX7_isOwner RX7, .castable "java/lang/IndexOutOfBoundsException" "java/lang/IndexOutOfBoundsException", .castable "java/lang/IllegalArgumentException" "java/lang/IllegalArgumentException", .castable "java/lang/UnsupportedOperationException" "java/lang/UnsupportedOperationException", .castable "java/util/NoSuchElementException" "java/util/NoSuchElementException", .castable "java/lang/IllegalStateException" "java/lang/IllegalStateException", .castable "java/lang/ArithmeticException" "java/lang/ArithmeticException", .declares (Bundle.initS "java/lang/RuntimeException"), .declares (Bundle.initS "java/lang/Exception"), .declares (Bundle.initS Bundle.tN), .privateMethod yJ5_ensureCapacityInternal_d00df, .privateMethod yJ5_newCapacity_0f7a4]
theorem xWarmP {x : MethodName} {s U : State} (hW : s.WarmedH U.vm) (hZ : va_Nw (.privateMethod x) s) : va_Nw (.privateMethod x) U := va_tabs rfl (rfl : (s.setVm U.vm).vm = U.vm) (by rw [Cond.privateMethod_setVm hW.alike]; exact hZ)
theorem xBad_warm {s U : State} (hW : s.WarmedH U.vm) : ∀ w ∈ xBad, va_Nw w s → va_Nw w U := List.forall_mem_cons.mpr ⟨fun h => va_Nw.warmM hW h, List.forall_mem_cons.mpr ⟨fun h => va_Nw.warmM hW h, List.forall_mem_cons.mpr ⟨fun h => va_Nw.warmM hW h, List.forall_mem_cons.mpr ⟨fun h => va_Nw.warmM hW h, List.forall_mem_cons.mpr ⟨fun h => va_Nw.warmM hW h, List.forall_mem_cons.mpr ⟨fun h => va_Nw.warmM hW h, List.forall_mem_cons.mpr ⟨fun h => va_Nw.warmC hW h, List.forall_mem_cons.mpr ⟨fun h => va_Nw.warmC hW h, List.forall_mem_cons.mpr ⟨fun h => va_Nw.warmC hW h, List.forall_mem_cons.mpr ⟨fun h => va_Nw.warmC hW h, List.forall_mem_cons.mpr ⟨fun h => va_Nw.warmC hW h, List.forall_mem_cons.mpr ⟨fun h => va_Nw.warmC hW h, List.forall_mem_cons.mpr ⟨fun h => va_Nw.warmD hW h, List.forall_mem_cons.mpr ⟨fun h => va_Nw.warmD hW h, List.forall_mem_cons.mpr ⟨fun h => va_Nw.warmD hW h, List.forall_mem_cons.mpr ⟨fun h => xWarmP hW h, List.forall_mem_cons.mpr ⟨fun h => xWarmP hW h, fun _ h => absurd h List.not_mem_nil⟩⟩⟩⟩⟩⟩⟩⟩⟩⟩⟩⟩⟩⟩⟩⟩⟩
theorem xBad_tab : ∀ w ∈ xBad, w.onTables = true := by decide +kernel
theorem xBad_same {u U : State} (h : u.vm = U.vm) : ∀ w ∈ xBad, va_Nw w u → va_Nw w U := fun w hw hz => va_Nw.same (xBad_tab w hw) h hz
def xEv (z : Nat) (ad av : Nat → Nat) (U : State) (H : Heap) : Prop :=
  vx_Zq Bundle.tN "UNASSIGNED_STACK" Bundle.steD (fun q => z ≤ q) U H ∧ vx_Zq Bundle.tN "SUPPRESSED_SENTINEL" Bundle.listD (fun q => z ≤ q) U H ∧
  (∀ i, i < xsN → vk_R (xsO.getD i "") (xsI.getD i 0) (xsT.getD i "") (ad i) U) ∧ vk_S xsN xsL xsB ad av (fun q => z ≤ q) U H ∧
  (va_Z "java/lang/String" "COMPACT_STRINGS" "Z" (.int 1) (fun q => z ≤ q) U H ∧ va_Zq "jdk/internal/util/Preconditions" "SIOOBE_FORMATTER" "Ljava/util/function/BiFunction;" (fun q => z ≤ q) U H) ∧
  (∃ t, va_Z "java/lang/Integer" "DigitTens" "[B" (.ref t) (fun q => z ≤ q) U H ∧ va_T .byte t 100 xdT (fun q => z ≤ q) U H) ∧
  (∃ t, va_Z "java/lang/Integer" "DigitOnes" "[B" (.ref t) (fun q => z ≤ q) U H ∧ va_T .byte t 100 xdO (fun q => z ≤ q) U H) ∧
  (∀ w ∈ xBad, va_Nw w U) ∧ ∀ i j, i < 6 → j < 6 → i ≠ j → va_Nc (xE (i + 1)) (xE (j + 1)) U
theorem xEv.move {z : Nat} {ad av : Nat → Nat} {u U : State} {H : Heap} (h : xEv z ad av u H) (hvm : u.vm.Alike U.vm) (hr : ∀ own k tx a, vk_R own k tx a u → vk_R own k tx a U) (hn : ∀ w ∈ xBad, va_Nw w u → va_Nw w U) : xEv z ad av U H := by
  obtain ⟨h1, h2, h3, h4, h5, ⟨t6, h6, h6'⟩, ⟨t7, h7, h7'⟩, h8, h9⟩ := h
  exact ⟨h1.moved hvm, h2.moved hvm, fun i hi => hr _ _ _ _ (h3 i hi), h4.moved hvm, ⟨va_Z.moved hvm h5.1, h5.2.moved hvm⟩, ⟨t6, va_Z.moved hvm h6, va_T.moved hvm h6'⟩, ⟨t7, va_Z.moved hvm h7, va_T.moved hvm h7'⟩, fun w hw => hn w hw (h8 w hw), fun i j hi hj hij => (h9 i j hi hj hij).moved hvm⟩
theorem xEv.kept {z : Nat} {ad av : Nat → Nat} {U : State} {H H1 : Heap} (h : xEv z ad av U H) (hq : ∀ a : Nat, a < H.size → ¬ z ≤ a → H1[a]? = H[a]?) : xEv z ad av U H1 := by
  obtain ⟨h1, h2, h3, h4, h5, ⟨t6, h6, h6'⟩, ⟨t7, h7, h7'⟩, h8, h9⟩ := h
  exact ⟨h1.kept hq, h2.kept hq, h3, h4.kept hq, ⟨h5.1.kept hq, h5.2.kept hq⟩, ⟨t6, h6.kept hq, h6'.kept hq⟩, ⟨t7, h7.kept hq, h7'.kept hq⟩, h8, h9⟩
def xSt (D : va_G) (ca : Nat → ClassId) (z : Nat) (G : xG) (X : va_W) (ad av : Nat → Nat) (μ : xM) (U : State) : Prop := xRep D ca G X μ U.heap ∧ va_K D vwCl (xT ca) U ∧ xEv z ad av U U.heap
theorem xSt_blind {D : va_G} {ca : Nat → ClassId} {z : Nat} {G : xG} {X : va_W} {ad av : Nat → Nat} {μ : xM} {as : List Value} : FrameBlind (va_Pc as (xSt D ca z G X ad av μ)) := by
  intro a U g mk q
  obtain ⟨q0, qR, qK, qE⟩ := q
  exact ⟨q0, qR, va_K.moved (u := U) (U := U.calling g mk a) (Vm.Alike.refl U.vm) qK, qE.move (U := U.calling g mk a) (Vm.Alike.refl U.vm) (fun _ _ _ _ h => vk_R.same (by rfl) h) (xBad_same (by rfl))⟩
theorem xSt_at {D : va_G} {ca : Nat → ClassId} {z : Nat} {G : xG} {X : va_W} {ad av : Nat → Nat} {μ : xM} {s : State} {H : Heap} {locs : List Loc} {as : List Value} (hR : xRep D ca G X μ H) (hK : va_K D vwCl (xT ca) s) (hE : xEv z ad av s s.heap) (hS : va_S (fun q => z ≤ q) s.heap H locs) : ∀ U : State, U.heap = H → s.WarmedH U.vm → va_Pc as (xSt D ca z G X ad av μ) as.toArray U := by
  intro U hU hW
  refine ⟨rfl, by rw [hU]; exact hR, va_K.moved hW.alike hK, ?_⟩
  rw [hU]
  exact (hE.kept hS.2.1).move hW.alike (fun _ _ _ _ h => vk_R.warm hW h) (xBad_warm hW)
theorem xRecv {D : va_G} {ca : Nat → ClassId} {G : xG} {X : va_W} {μ : xM} {s : State} {H : Heap} {b ci : Nat} {C : String} {T : u_T} {N : Nat} (hK : va_K D vwCl (xT ca) s) (hR : xRep D ca G X μ H) (hc : vwCl[ci]? = some (C, T, N)) (hk0 : G.1 b = ci + 1) : ∃ cell : Cell, H[b]? = some cell ∧ cell.vm.isStatics = false ∧ s.vm.findClass C = some cell.cls := by
  obtain ⟨cell, q1, q2, q3, -⟩ := (xAt_obj hk0 hc).mp (hR.1 b)
  obtain ⟨-, hfc, -⟩ := hK.1 ci _ hc
  exact ⟨cell, q1, by rw [q3]; rfl, by rw [q2]; exact hfc⟩
abbrev xRm (d mc ms : Nat) : Room := { frames := d, cells := mc, slots := ms, locals := 64 * d }
/-- what a method leaves: the store μ1 -/
def xB (D : va_G) (ca : Nat → ClassId) (G : xG) (X : va_W) (μ1 : xM) (t : State) : Prop := xRep D ca G X μ1 t.heap ∧ va_K D vwCl (xT ca) t
/-- a method that answers r, and leaves μ1; it makes nothing -/
def xMi (l : Launch) (y : MethodName) (ws : List Cond) (d : Nat) (D : va_G) (ca : Nat → ClassId) (z : Nat) (G : xG) (X : va_W) (ad av : Nat → Nat) (as : List Value) (μ : xM) (r : Int32) (μ1 : xM) : Prop :=
  Met l y ws (xRm d 0 0) (va_Pc as (xSt D ca z G X ad av μ)) (va_Qi (fun (r' : Int32) (_ : Unit) => r' = r) (fun _ t => xB D ca G X μ1 t) (fun q => z ≤ q)) 0 0 (fun q => z ≤ q)
def xMv (l : Launch) (y : MethodName) (ws : List Cond) (d : Nat) (D : va_G) (ca : Nat → ClassId) (z : Nat) (G : xG) (X : va_W) (ad av : Nat → Nat) (as : List Value) (μ : xM) (μ1 : xM) : Prop :=
  Met l y ws (xRm d 0 0) (va_Pc as (xSt D ca z G X ad av μ)) (va_Qv (fun (_ : Unit) => True) (fun _ t => xB D ca G X μ1 t) (fun q => z ≤ q)) 0 0 (fun q => z ≤ q)
/-- the start of a proof of xMi -/
theorem xm_i {l : Launch} {y : MethodName} {ws ws' : List Cond} {d : Nat} {D : va_G} {ca : Nat → ClassId} {z : Nat} {G : xG} {X : va_W} {ad av : Nat → Nat} {as : List Value} {μ μ1 : xM} {r : Int32} {cc : ByteArray} {nL : Nat} {ty : FieldType} (hy : plainName y.cls = true) (hw : ws = .code y cc nL (some ty) :: ws') (hn : (lg_sl as).length ≤ nL) (L0 : List (Nat × Value)) (hL : lv_args 0 as = L0)
    (body : ∀ (p : Program) (e : Env) (s : State) (m : MethodId) (args : Array Value) (below : List Frame) (meth : Method) (c : Code) (ls : Array Slot), p.tables.exec = Jvm.exec → c.code = cc → meth.sig.returnType = some ty → c.maxLocals = nL → meth.locks = false → (∀ w ∈ ws, w.before args s = true) → s.vm.findClass y.cls = some m.cls → va_K D vwCl (xT ca) s → xEv z ad av s s.heap → xRep D ca G X μ s.heap → va_S (fun q => z ≤ q) s.heap s.heap [] → lv_has ls nL L0 →
      W p l e (xRm d 0 0) s m args below meth c s.heap [] 0 0 (MQ below (va_Qi (fun (r' : Int32) (_ : Unit) => r' = r) (fun _ t => xB D ca G X μ1 t) (fun q => z ≤ q)) args s 0 0 (fun q => z ≤ q)) (F0 m 0 ls [])) : xMi l y ws d D ca z G X ad av as μ r μ1 := by
  refine Met.ofW (cc := cc) (maxL := nL) (ret := some ty) hy hw ?_
  intro p e s m args below meth c s₁ B hml hv
  obtain ⟨rfl, hR, hK, hE⟩ := hv
  have hl := lv_entry as (n := nL) hn
  rw [hL] at hl
  rw [lg_entry_eq]
  exact body p e s m _ below meth c _ B.exec B.bytes B.returns hml B.notSynchronized (atoms_spec (ws := ws) B.pre) (findClass_of_methodNamed B.named) hK hE hR va_S.rf hl
theorem xm_v {l : Launch} {y : MethodName} {ws ws' : List Cond} {d : Nat} {D : va_G} {ca : Nat → ClassId} {z : Nat} {G : xG} {X : va_W} {ad av : Nat → Nat} {as : List Value} {μ μ1 : xM} {cc : ByteArray} {nL : Nat} (hy : plainName y.cls = true) (hw : ws = .code y cc nL none :: ws') (hn : (lg_sl as).length ≤ nL) (L0 : List (Nat × Value)) (hL : lv_args 0 as = L0)
    (body : ∀ (p : Program) (e : Env) (s : State) (m : MethodId) (args : Array Value) (below : List Frame) (meth : Method) (c : Code) (ls : Array Slot), p.tables.exec = Jvm.exec → c.code = cc → meth.sig.returnType = none → c.maxLocals = nL → meth.locks = false → (∀ w ∈ ws, w.before args s = true) → s.vm.findClass y.cls = some m.cls → va_K D vwCl (xT ca) s → xEv z ad av s s.heap → xRep D ca G X μ s.heap → va_S (fun q => z ≤ q) s.heap s.heap [] → lv_has ls nL L0 →
      W p l e (xRm d 0 0) s m args below meth c s.heap [] 0 0 (MQ below (va_Qv (fun (_ : Unit) => True) (fun _ t => xB D ca G X μ1 t) (fun q => z ≤ q)) args s 0 0 (fun q => z ≤ q)) (F0 m 0 ls [])) : xMv l y ws d D ca z G X ad av as μ μ1 := by
  refine Met.ofW (cc := cc) (maxL := nL) (ret := none) hy hw ?_
  intro p e s m args below meth c s₁ B hml hv
  obtain ⟨rfl, hR, hK, hE⟩ := hv
  have hl := lv_entry as (n := nL) hn
  rw [hL] at hl
  rw [lg_entry_eq]
  exact body p e s m _ below meth c _ B.exec B.bytes B.returns hml B.notSynchronized (atoms_spec (ws := ws) B.pre) (findClass_of_methodNamed B.named) hK hE hR va_S.rf hl
section XC
variable {p : Program} {l : Launch} {e : Env} {R : Room} {s : State} {m : MethodId} {args : Array Value} {below : List Frame} {meth : Method} {c : Code} {H : Heap} {locs : List Loc} {cells slots : Nat} {Q : State → Prop}
variable {cc : ByteArray} {pc : Nat} {ls : Array Slot} {rest st : List Value} {D : va_G} {ca : Nat → ClassId} {z b : Nat} {G : xG} {X : va_W} {μ μ1 : xM} {ad av : Nat → Nat} {r : Int32}
variable {y : MethodName} {bytes : ByteArray} {maxL nL n index d : Nat} {ws Ts : List Cond} {own C : String} {As : List Value}
/-- the ends -/
theorem xe_i {Rt : FieldType} (hx : p.tables.exec = Jvm.exec) (hb : c.code = cc) (hr : meth.sig.returnType = some Rt) (hn : narrow Rt (.int r) = .int r) (hlocks : meth.locks = false) (hR : xRep D ca G X μ1 H) (hK : va_K D vwCl (xT ca) s) (hS : va_S (fun q => z ≤ q) s.heap H locs) (hdg : decode cc pc = .ok (.ireturn, 1)) :
    W p l e R s m args below meth c H locs 0 0 (MQ below (va_Qi (fun (r' : Int32) (_ : Unit) => r' = r) (fun _ t => xB D ca G X μ1 t) (fun q => z ≤ q)) args s 0 0 (fun q => z ≤ q)) (F0 m pc ls [.int r]) :=
  W.zret (v := r) hx hb hr hn (fun t ht hW => ⟨⟨r, (), rfl, rfl, by rw [ht]; exact hR, va_K.moved hW.alike hK⟩, hS.F ht⟩) hS.2.2 hdg hlocks
theorem xe_v (hx : p.tables.exec = Jvm.exec) (hb : c.code = cc) (hr : meth.sig.returnType = none) (hlocks : meth.locks = false) (hR : xRep D ca G X μ1 H) (hK : va_K D vwCl (xT ca) s) (hS : va_S (fun q => z ≤ q) s.heap H locs) (hdg : decode cc pc = .ok (.return_, 1)) :
    W p l e R s m args below meth c H locs 0 0 (MQ below (va_Qv (fun (_ : Unit) => True) (fun _ t => xB D ca G X μ1 t) (fun q => z ≤ q)) args s 0 0 (fun q => z ≤ q)) (F0 m pc ls []) :=
  W.vret hx hb hr (fun t ht hW => ⟨⟨(), rfl, trivial, by rw [ht]; exact hR, va_K.moved hW.alike hK⟩, hS.F ht⟩) hS.2.2 hdg hlocks
/-- calls of methods that make nothing and don't throw -/
theorem xc_iV (S : CallFix p m c cc nL s args Ts own) (hM : xMi l y ws d D ca z G X ad av (.ref b :: As) μ r μ1) {rt : FieldType} (cw : CallW R s args own C index y bytes maxL (some rt) ws (xRm d 0 0) 0 0 n) (hrv : ∃ cell : Cell, H[b]? = some cell ∧ cell.vm.isStatics = false ∧ s.vm.findClass C = some cell.cls) (hR : xRep D ca G X μ H) (hK : va_K D vwCl (xT ca) s) (hE : xEv z ad av s s.heap) (hS : va_S (fun q => z ≤ q) s.heap H locs)
    (hn : As.length = n) (hsize : ls.size = nL) (hst : st = As.reverse ++ .ref b :: rest) (hW : (rest.map fun v => v.category).sum ≤ 8) (hdg : decode cc pc = .ok (.invokevirtual index, 3)) (hf : cells ≤ R.cells ∧ slots ≤ R.slots)
    (kk : ∀ (H1 : Heap) (locs1 : List Loc), xRep D ca G X μ1 H1 → va_S (fun q => z ≤ q) s.heap H1 locs1 → W p l e R s m args below meth c H1 locs1 cells slots Q (F0 m (pc + 3) ls (.int r :: rest))) : W p l e R s m args below meth c H locs cells slots Q (F0 m pc ls st) := by
  refine va_calli (va_runV (As := As) (rest := rest) S hM cw ⟨xSt_blind, hrv, xSt_at hR hK hE hS⟩ rfl hn hsize hst (lv_room hW) hdg hf) hS (fun q _ h => h) (fun q h => h) (fun r1 u t H1 locs1 ht hvm hw hB hz1 hk1 hS1 => ?_)
  obtain ⟨hR1, -⟩ := hB
  rw [ht] at hR1
  subst hw
  exact kk H1 locs1 hR1 hS1
theorem xc_vV (S : CallFix p m c cc nL s args Ts own) (hM : xMv l y ws d D ca z G X ad av (.ref b :: As) μ μ1) (cw : CallW R s args own C index y bytes maxL none ws (xRm d 0 0) 0 0 n) (hrv : ∃ cell : Cell, H[b]? = some cell ∧ cell.vm.isStatics = false ∧ s.vm.findClass C = some cell.cls) (hR : xRep D ca G X μ H) (hK : va_K D vwCl (xT ca) s) (hE : xEv z ad av s s.heap) (hS : va_S (fun q => z ≤ q) s.heap H locs)
    (hn : As.length = n) (hsize : ls.size = nL) (hst : st = As.reverse ++ .ref b :: rest) (hW : (rest.map fun v => v.category).sum ≤ 8) (hdg : decode cc pc = .ok (.invokevirtual index, 3)) (hf : cells ≤ R.cells ∧ slots ≤ R.slots)
    (kk : ∀ (H1 : Heap) (locs1 : List Loc), xRep D ca G X μ1 H1 → va_S (fun q => z ≤ q) s.heap H1 locs1 → W p l e R s m args below meth c H1 locs1 cells slots Q (F0 m (pc + 3) ls rest)) : W p l e R s m args below meth c H locs cells slots Q (F0 m pc ls st) := by
  refine va_callv (va_runV (As := As) (rest := rest) S hM cw ⟨xSt_blind, hrv, xSt_at hR hK hE hS⟩ rfl hn hsize hst (lv_room hW) hdg hf) hS (fun q _ h => h) (fun q h => h) (fun u t H1 locs1 ht hvm hw hB hz1 hk1 hS1 => ?_)
  obtain ⟨hR1, -⟩ := hB
  rw [ht] at hR1
  exact kk H1 locs1 hR1 hS1
theorem xc_iS (S : CallFix p m c cc nL s args Ts own) (hM : xMi l y ws d D ca z G X ad av As μ r μ1) {rt : FieldType} (cw : CallB R s args own index y bytes maxL (some rt) ws (xRm d 0 0) 0 0 n ∧ (Cond.static y).before args s = true) (hR : xRep D ca G X μ H) (hK : va_K D vwCl (xT ca) s) (hE : xEv z ad av s s.heap) (hS : va_S (fun q => z ≤ q) s.heap H locs)
    (hn : As.length = n) (hsize : ls.size = nL) (hst : st = As.reverse ++ rest) (hW : (rest.map fun v => v.category).sum ≤ 8) (hdg : decode cc pc = .ok (.invokestatic index, 3)) (hf : cells ≤ R.cells ∧ slots ≤ R.slots)
    (kk : ∀ (H1 : Heap) (locs1 : List Loc), xRep D ca G X μ1 H1 → va_S (fun q => z ≤ q) s.heap H1 locs1 → W p l e R s m args below meth c H1 locs1 cells slots Q (F0 m (pc + 3) ls (.int r :: rest))) : W p l e R s m args below meth c H locs cells slots Q (F0 m pc ls st) := by
  refine va_calli (va_runS (As := As) (rest := rest) S hM cw ⟨xSt_blind, xSt_at hR hK hE hS⟩ rfl hn hsize hst (lv_room hW) hdg hf) hS (fun q _ h => h) (fun q h => h) (fun r1 u t H1 locs1 ht hvm hw hB hz1 hk1 hS1 => ?_)
  obtain ⟨hR1, -⟩ := hB
  rw [ht] at hR1
  subst hw
  exact kk H1 locs1 hR1 hS1
theorem xc_vS (S : CallFix p m c cc nL s args Ts own) (hM : xMv l y ws d D ca z G X ad av As μ μ1) (cw : CallB R s args own index y bytes maxL none ws (xRm d 0 0) 0 0 n ∧ (Cond.static y).before args s = true) (hR : xRep D ca G X μ H) (hK : va_K D vwCl (xT ca) s) (hE : xEv z ad av s s.heap) (hS : va_S (fun q => z ≤ q) s.heap H locs)
    (hn : As.length = n) (hsize : ls.size = nL) (hst : st = As.reverse ++ rest) (hW : (rest.map fun v => v.category).sum ≤ 8) (hdg : decode cc pc = .ok (.invokestatic index, 3)) (hf : cells ≤ R.cells ∧ slots ≤ R.slots)
    (kk : ∀ (H1 : Heap) (locs1 : List Loc), xRep D ca G X μ1 H1 → va_S (fun q => z ≤ q) s.heap H1 locs1 → W p l e R s m args below meth c H1 locs1 cells slots Q (F0 m (pc + 3) ls rest)) : W p l e R s m args below meth c H locs cells slots Q (F0 m pc ls st) := by
  refine va_callv (va_runS (As := As) (rest := rest) S hM cw ⟨xSt_blind, xSt_at hR hK hE hS⟩ rfl hn hsize hst (lv_room hW) hdg hf) hS (fun q _ h => h) (fun q h => h) (fun u t H1 locs1 ht hvm hw hB hz1 hk1 hS1 => ?_)
  obtain ⟨hR1, -⟩ := hB
  rw [ht] at hR1
  exact kk H1 locs1 hR1 hS1
end XC
