/-! methods with a table of handlers (the law's): what they call may throw, they catch it and answer -/
theorem xMetH {l : Launch} {y : MethodName} {ws ws' : List Cond} {rm : Room} {Pc : Array Value → State → Prop} {Qc : Array Value → State → Outcome → State → Prop} {mc ms : Nat} {free : Addr → Prop} {cc : ByteArray} {maxL : Nat} {ret : Option FieldType} {hh : List (Nat × Nat × Nat × Nat)}
    (hy : plainName y.cls = true) (hw : ws = Cond.codeWith y cc maxL ret hh :: ws')
    (body : ∀ p e s m args below meth c s₁, BodyLoose p l y (headSpec ws rm) cc maxL ret e s m args below meth c s₁ → c.maxLocals = maxL → Pc args s →
      W p l e (headSpec ws rm).room s m args below meth c s.heap [] 0 0 (MQ below Qc args s mc ms free) (entryFrame m args maxL)) : Met l y ws rm Pc Qc mc ms free := by
  refine MetFree.of_bodyS (code := cc) (maxLocals := maxL) (ret := ret) hy ?_ ?_
  · intro args s m h hn
    obtain ⟨m9, meth, c, hn9, h1, h2, h3, h4, -, h5, h6, -⟩ := Cond.codeWith_spec (atoms_spec (ws := ws) h _ (by rw [hw]; exact List.mem_cons_self))
    cases hn.symm.trans hn9
    exact ⟨meth, c, h1, h2, h3, h4, h5, h6⟩
  · intro p e s m args below meth c s₁ B hml hP _
    have hh0 : s₁.heap = s.heap := by rw [B.state]; rfl
    obtain ⟨t, a1, o, b1, b2, b3⟩ := body p e s m args below meth c s₁ B hml hP s₁ hh0 (Stand.of_body B)
    exact ⟨t, o, a1, b1, b2, ⟨b3.1, b3.2⟩⟩
abbrev xwh (y : MethodName) (b : ByteArray) (n : Nat) (ret : Option FieldType) (hh : List (Nat × Nat × Nat × Nat)) : List Cond := .codeWith y b n ret hh :: xAll
/-- an int method that answers r and leaves μ1, and may make some cells -/
def xMw (l : Launch) (y : MethodName) (ws : List Cond) (d mc ms : Nat) (D : va_G) (ca : Nat → ClassId) (z : Nat) (G : xG) (X : va_W) (ad av : Nat → Nat) (as : List Value) (μ : xM) (r : Int32) (μ1 : xM) : Prop :=
  Met l y ws (xRm d mc ms) (va_Pc as (xSt D ca z G X ad av μ)) (va_Qi (fun (r' : Int32) (_ : Unit) => r' = r) (fun _ t => xB D ca G X μ1 t) (fun q => z ≤ q)) mc ms (fun q => z ≤ q)
theorem xm_w {l : Launch} {y : MethodName} {ws ws' : List Cond} {d mc ms : Nat} {D : va_G} {ca : Nat → ClassId} {z : Nat} {G : xG} {X : va_W} {ad av : Nat → Nat} {as : List Value} {μ μ1 : xM} {r : Int32} {cc : ByteArray} {nL : Nat} {ty : FieldType} {hh : List (Nat × Nat × Nat × Nat)} (hy : plainName y.cls = true) (hw : ws = .codeWith y cc nL (some ty) hh :: ws') (hn : (lg_sl as).length ≤ nL) (L0 : List (Nat × Value)) (hL : lv_args 0 as = L0)
    (body : ∀ (p : Program) (e : Env) (s : State) (m : MethodId) (args : Array Value) (below : List Frame) (meth : Method) (c : Code) (ls : Array Slot), p.tables.exec = Jvm.exec → c.code = cc → meth.sig.returnType = some ty → c.maxLocals = nL → meth.locks = false → c.exceptionTable.toList = tableOf hh → (∀ w ∈ ws, w.before args s = true) → s.vm.findClass y.cls = some m.cls → va_K D vwCl (xT ca) s → xEv z ad av s s.heap → xRep D ca G X μ s.heap → va_S (fun q => z ≤ q) s.heap s.heap [] → lv_has ls nL L0 →
      W p l e (xRm d mc ms) s m args below meth c s.heap [] 0 0 (MQ below (va_Qi (fun (r' : Int32) (_ : Unit) => r' = r) (fun _ t => xB D ca G X μ1 t) (fun q => z ≤ q)) args s mc ms (fun q => z ≤ q)) (F0 m 0 ls [])) : xMw l y ws d mc ms D ca z G X ad av as μ r μ1 := by
  refine xMetH (cc := cc) (maxL := nL) (ret := some ty) (hh := hh) hy hw ?_
  intro p e s m args below meth c s₁ B hml hv
  obtain ⟨rfl, hR, hK, hE⟩ := hv
  have hl := lv_entry as (n := nL) hn
  rw [hL] at hl
  rw [lg_entry_eq]
  have hts := atoms_spec (ws := ws) B.pre
  exact body p e s m _ below meth c _ B.exec B.bytes B.returns hml B.notSynchronized (vx_table (x := y) B (hts _ (by rw [hw]; exact List.mem_cons_self))) hts (findClass_of_methodNamed B.named) hK hE hR va_S.rf hl
def xch {α : Type} (o : Option (xO × xM)) (K : Int32 → xM → Option α) (E : Nat → xM → Option α) : Option α := match o with
  | some ((0, r), μ) => K r μ
  | some ((e + 1, _), μ) => E (e + 1) μ
  | none => none
theorem xch_inv {α : Type} {o : Option (xO × xM)} {K : Int32 → xM → Option α} {E : Nat → xM → Option α} {v : α} (h : xch o K E = some v) : (∃ r μ, o = some ((0, r), μ) ∧ K r μ = some v) ∨ ∃ e r μ, o = some ((e + 1, r), μ) ∧ E (e + 1) μ = some v := by
  match o, h with
  | some ((0, r), μ), h => exact Or.inl ⟨r, μ, rfl, h⟩
  | some ((e + 1, r), μ), h => exact Or.inr ⟨e, r, μ, rfl, h⟩
theorem xch_t {α : Type} {o : Option (xO × xM)} {K : Int32 → xM → Option α} {E : Nat → xM → Option α} {r : Int32} {μ : xM} (h : o = some ((0, r), μ)) : xch o K E = K r μ := by rw [h]; rfl
theorem xch_e {α : Type} {o : Option (xO × xM)} {K : Int32 → xM → Option α} {E : Nat → xM → Option α} {e : Nat} {r : Int32} {μ : xM} (h : o = some ((e + 1, r), μ)) : xch o K E = E (e + 1) μ := by rw [h]; rfl
section XCA
variable {p : Program} {l : Launch} {e : Env} {R : Room} {s : State} {m : MethodId} {args : Array Value} {below : List Frame} {meth : Method} {c : Code} {H : Heap} {locs : List Loc} {cells slots mc ms : Nat} {Q : State → Prop}
variable {cc : ByteArray} {pc : Nat} {ls : Array Slot} {rest : List Value} {D : va_G} {ca : Nat → ClassId} {z a : Nat} {G : xG} {X : va_W} {μ μ1 : xM} {ad av : Nat → Nat} {r v : Int32}
theorem xf_w {Rt : FieldType} (hx : p.tables.exec = Jvm.exec) (hb : c.code = cc) (hr : meth.sig.returnType = some Rt) (hn : narrow Rt (.int v) = .int v) (hlocks : meth.locks = false) (h : (some (v, μ) : Option (Int32 × xM)) = some (r, μ1)) (hR : xRep D ca G X μ H) (hK : va_K D vwCl (xT ca) s) (hS : va_S (fun q => z ≤ q) s.heap H locs) (hc : cells ≤ mc) (hs : slots ≤ ms) (hdg : decode cc pc = .ok (.ireturn, 1)) :
    W p l e R s m args below meth c H locs cells slots (MQ below (va_Qi (fun (r' : Int32) (_ : Unit) => r' = r) (fun _ t => xB D ca G X μ1 t) (fun q => z ≤ q)) args s mc ms (fun q => z ≤ q)) (F0 m pc ls [.int v]) := by
  cases h
  refine W.widen hc hs ?_
  exact W.zret hx hb hr hn (fun t ht hW => ⟨⟨_, (), rfl, rfl, by rw [ht]; exact hR, va_K.moved hW.alike hK⟩, hS.F ht⟩) hS.2.2 hdg hlocks
theorem xCatch {hh : List (Nat × Nat × Nat × Nat)} {ce : Cell} {q9 : Addr} (hT : c.exceptionTable.toList = tableOf hh) (hown : s.vm.findClass RL = some m.cls) (hE : xEv z ad av s s.heap) (pre : List ExceptionTableEntry) (x : ExceptionTableEntry) (suf : List ExceptionTableEntry) (hsp : tableOf hh = pre ++ x :: suf) (k : Nat) (hk : k < 6)
    (hpass : ∀ z ∈ pre, z.catchType ≠ 0 ∧ ∃ j, j < 6 ∧ k ≠ j ∧ (Cond.classLink RL z.catchType (xE (j + 1))).before args s = true) (hcv : covers x pc = true) (h0 : x.catchType ≠ 0) (hlink : (Cond.classLink RL x.catchType (xE (k + 1))).before args s = true) (hcast : Cond.castable (xE (k + 1)) (xE (k + 1)) ∈ xBad) (h1 : H[q9]? = some ce) (h2 : ce.vm = .none) (h3 : s.vm.findClass (xE (k + 1)) = some ce.cls)
    (kk : W p l e R s m args below meth c H locs cells slots Q (F0 m x.handlerPc ls [.ref q9])) : vx_W p l e R s m args below meth c H locs cells slots Q (F0 m pc ls rest) q9 :=
  vx_catch hown pre x suf (hT.trans hsp) (fun w hw => Or.inr ⟨(hpass w hw).1, by
    obtain ⟨-, j, hj, hkj, hl⟩ := hpass w hw
    exact ⟨xE (j + 1), hl, hE.2.2.2.2.2.2.2.2 k j hk hj hkj⟩⟩) hcv h0 hlink (va_Nw.use (xBad_tab _ hcast) (hE.2.2.2.2.2.2.2.1 _ hcast)) h1 h2 h3 kk
theorem xr_lastk (k : Nat) (hexec : p.tables.exec = Jvm.exec) (hb : c.code = cc) (hK : va_K D vwCl (xT ca) s) (hR : xRep D ca G X μ H) (hFx : xFix z G X) {H0 : Heap} (hS : va_S (fun q => z ≤ q) H0 H locs) (hk0 : G.1 a = 104) {n : Nat} (hn : G.2.2 a = n) {i x : Int32} (hk : i.toNatClampNeg = k) (hin : vp_in i n) (hdg : decode cc pc = .ok (.lastore, 1))
    (kk : ∀ (H1 : Heap) (locs1 : List Loc), xRep D ca G X (xw μ a k x) H1 → va_S (fun q => z ≤ q) H0 H1 locs1 → W p l e R s m args below meth c H1 locs1 cells slots Q (F0 m (pc + 1) ls rest)) : W p l e R s m args below meth c H locs cells slots Q (F0 m pc ls (.long x.toInt64 :: .int i :: .ref a :: rest)) := by
  subst hk
  exact xr_last hexec hb hK hR hFx hS hk0 hn hin hdg kk
theorem xr_laldk (k : Nat) (hexec : p.tables.exec = Jvm.exec) (hb : c.code = cc) (hK : va_K D vwCl (xT ca) s) (hR : xRep D ca G X μ H) (hk0 : G.1 a = 104) {n : Nat} (hn : G.2.2 a = n) {i : Int32} (hk : i.toNatClampNeg = k) (hin : vp_in i n) (hdg : decode cc pc = .ok (.laload, 1))
    (kk : W p l e R s m args below meth c H locs cells slots Q (F0 m (pc + 1) ls (.long (μ a k).toInt64 :: rest))) : W p l e R s m args below meth c H locs cells slots Q (F0 m pc ls (.int i :: .ref a :: rest)) := by
  subst hk
  exact xr_lald hexec hb hK hR hk0 hn hin hdg kk
end XCA
