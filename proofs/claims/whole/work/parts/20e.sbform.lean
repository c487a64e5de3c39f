/-! the StringBuilder's methods: their form -/
def xQv (D : va_G) (ca : Nat → ClassId) (z : Nat) (G : xG) (μ : xM) (K : va_W → Prop) : Array Value → State → Outcome → State → Prop := va_Qv (fun (X1 : va_W) => K X1 ∧ xFix z G X1 ∧ va_D (fun q => z ≤ q) X1) (fun X1 t => xB D ca G X1 μ t) (fun q => z ≤ q)
def xQr (D : va_G) (ca : Nat → ClassId) (z : Nat) (G : xG) (μ : xM) (K : Nat → va_W → Prop) : Array Value → State → Outcome → State → Prop := va_Qr (fun (u : Nat × va_W) => K u.1 u.2 ∧ xFix z G u.2 ∧ va_D (fun q => z ≤ q) u.2) (fun u a t => a = u.1 ∧ xB D ca G u.2 μ t) (fun q => z ≤ q)
def xQi (D : va_G) (ca : Nat → ClassId) (z : Nat) (G : xG) (μ : xM) (K : Int32 → va_W → Prop) : Array Value → State → Outcome → State → Prop := va_Qi (fun (r : Int32) (X1 : va_W) => K r X1 ∧ xFix z G X1 ∧ va_D (fun q => z ≤ q) X1) (fun X1 t => xB D ca G X1 μ t) (fun q => z ≤ q)
abbrev xZ (l : Launch) (y : MethodName) (ws : List Cond) (d mc ms : Nat) (D : va_G) (ca : Nat → ClassId) (z : Nat) (G : xG) (X : va_W) (ad av : Nat → Nat) (as : List Value) (μ : xM) (Qc : Array Value → State → Outcome → State → Prop) : Prop :=
  Met l y ws (xRm d mc ms) (va_Pc as (xSt D ca z G X ad av μ)) Qc mc ms (fun q => z ≤ q)
theorem xm_g {l : Launch} {y : MethodName} {ws ws' : List Cond} {d mc ms : Nat} {D : va_G} {ca : Nat → ClassId} {z : Nat} {G : xG} {X : va_W} {ad av : Nat → Nat} {as : List Value} {μ : xM} {Qc : Array Value → State → Outcome → State → Prop} {cc : ByteArray} {nL : Nat} {ty : Option FieldType} (hy : plainName y.cls = true) (hw : ws = .code y cc nL ty :: ws') (hn : (lg_sl as).length ≤ nL) (L0 : List (Nat × Value)) (hL : lv_args 0 as = L0)
    (body : ∀ (p : Program) (e : Env) (s : State) (m : MethodId) (args : Array Value) (below : List Frame) (meth : Method) (c : Code) (ls : Array Slot), p.tables.exec = Jvm.exec → c.code = cc → meth.sig.returnType = ty → c.maxLocals = nL → meth.locks = false → (∀ w ∈ ws, w.before args s = true) → s.vm.findClass y.cls = some m.cls → va_K D vwCl (xT ca) s → xEv z ad av s s.heap → xRep D ca G X μ s.heap → va_S (fun q => z ≤ q) s.heap s.heap [] → lv_has ls nL L0 →
      W p l e (xRm d mc ms) s m args below meth c s.heap [] 0 0 (MQ below Qc args s mc ms (fun q => z ≤ q)) (F0 m 0 ls [])) : xZ l y ws d mc ms D ca z G X ad av as μ Qc := by
  refine Met.ofW (cc := cc) (maxL := nL) (ret := ty) hy hw ?_
  intro p e s m args below meth c s₁ B hml hv
  obtain ⟨rfl, hR, hK, hE⟩ := hv
  have hl := lv_entry as (n := nL) hn
  rw [hL] at hl
  rw [lg_entry_eq]
  exact body p e s m _ below meth c _ B.exec B.bytes B.returns hml B.notSynchronized (atoms_spec (ws := ws) B.pre) (findClass_of_methodNamed B.named) hK hE hR va_S.rf hl
def xFc (C : String) (y : MethodName) (b : ByteArray) (nL : Nat) (ret : Option FieldType) (n : Nat) : Prop := .instanceMethod y ∈ xAll ∧ .selects C y y ∈ xAll ∧ .initialized y.cls ∈ xAll ∧ .code y b nL ret ∈ xAll ∧ (y.cls ≠ "java/lang/invoke/MethodHandle" ∧ y.cls ≠ "java/lang/invoke/VarHandle" ∧ (parseMethodDescriptor y.desc).map (fun d => d.parameters.length) = some n)
theorem xcwC {R : Room} {s : State} {args : Array Value} {own C : String} {index maxL d mc ms : Nat} {y : MethodName} {bytes : ByteArray} {ret : Option FieldType} (n : Nat) (hts : ∀ w ∈ xAll, w.before args s = true) (f : xFc C y bytes maxL ret n) (hl : .methodLink own index y ∈ xAll) (hR : (xRm d mc ms).frames + 1 ≤ R.frames ∧ 8 + (maxL + 11) + (xRm d mc ms).locals ≤ R.locals) : CallW R s args own C index y bytes maxL ret (xws y bytes maxL ret) (xRm d mc ms) mc ms n :=
  ⟨callB_of n hts (xgood f.2.2.2.1) rfl rfl rfl (hts _ f.2.2.1) (hts _ hl) f.2.2.2.2 hR, hts _ f.1, hts _ f.2.1⟩
theorem xSr {D : va_G} {ca : Nat → ClassId} {G : xG} {μ : xM} {s : State} {H : Heap} {sb v cap od : Nat} {ml k : Int32} {f : Nat → Int32} {fd : Nat → UInt64} (hK : va_K D vwCl (xT ca) s) (hR : xRep D ca G (sX ca sb v cap od ml k f fd) μ H) : ∃ cell : Cell, H[sb]? = some cell ∧ cell.vm.isStatics = false ∧ s.vm.findClass RJ4 = some cell.cls := by
  obtain ⟨r, h1, cell, q1, q2, q3, -⟩ := hR.2 0 _ rfl
  cases h1
  obtain ⟨-, hfc, -⟩ := hK.1 1 (RJ4, TJ4, 4) rfl
  exact ⟨cell, q1, by rw [q3]; rfl, by rw [q2]; exact hfc⟩
section XSQ
variable {p : Program} {l : Launch} {e : Env} {R : Room} {s : State} {m : MethodId} {args : Array Value} {below : List Frame} {meth : Method} {c : Code} {H : Heap} {locs : List Loc} {cells slots mc ms : Nat} {Q : State → Prop}
variable {cc : ByteArray} {pc : Nat} {ls : Array Slot} {rest st : List Value} {D : va_G} {ca : Nat → ClassId} {z : Nat} {G : xG} {X : va_W} {μ : xM} {a : Array Value}
theorem xq_v {K : va_W → Prop} (hr : va_Run p l e R s m args below meth c H locs cells slots mc ms (F0 m pc ls st) rest (xQv D ca z G μ K a) (fun q => z ≤ q)) (hS : va_S (fun q => z ≤ q) s.heap H locs)
    (kk : ∀ (X1 : va_W) (H1 : Heap) (locs1 : List Loc), K X1 → xFix z G X1 → va_D (fun q => z ≤ q) X1 → xRep D ca G X1 μ H1 → va_S (fun q => z ≤ q) s.heap H1 locs1 → W p l e R s m args below meth c H1 locs1 (cells + mc) (slots + ms) Q (F0 m (pc + 3) ls rest)) : W p l e R s m args below meth c H locs cells slots Q (F0 m pc ls st) := by
  refine va_callv hr hS (fun q _ h => h) (fun q h => h) (fun u t H1 locs1 ht hvm hw hB hz1 hk1 hS1 => ?_)
  obtain ⟨hR1, -⟩ := hB
  rw [ht] at hR1
  exact kk u H1 locs1 hw.1 hw.2.1 hw.2.2 hR1 hS1
theorem xq_r {K : Nat → va_W → Prop} (hr : va_Run p l e R s m args below meth c H locs cells slots mc ms (F0 m pc ls st) rest (xQr D ca z G μ K a) (fun q => z ≤ q)) (hS : va_S (fun q => z ≤ q) s.heap H locs)
    (kk : ∀ (q : Nat) (X1 : va_W) (H1 : Heap) (locs1 : List Loc), K q X1 → xFix z G X1 → va_D (fun q => z ≤ q) X1 → xRep D ca G X1 μ H1 → va_S (fun q => z ≤ q) s.heap H1 locs1 → W p l e R s m args below meth c H1 locs1 (cells + mc) (slots + ms) Q (F0 m (pc + 3) ls (.ref q :: rest))) : W p l e R s m args below meth c H locs cells slots Q (F0 m pc ls st) := by
  refine va_callr hr hS (fun q _ h => h) (fun q h => h) (fun u ra t H1 locs1 ht hvm hw hB hz1 hk1 hS1 => ?_)
  obtain ⟨rfl, hR1, -⟩ := hB
  rw [ht] at hR1
  exact kk u.1 u.2 H1 locs1 hw.1 hw.2.1 hw.2.2 hR1 hS1
theorem xq_i {K : Int32 → va_W → Prop} (hr : va_Run p l e R s m args below meth c H locs cells slots mc ms (F0 m pc ls st) rest (xQi D ca z G μ K a) (fun q => z ≤ q)) (hS : va_S (fun q => z ≤ q) s.heap H locs)
    (kk : ∀ (r : Int32) (X1 : va_W) (H1 : Heap) (locs1 : List Loc), K r X1 → xFix z G X1 → va_D (fun q => z ≤ q) X1 → xRep D ca G X1 μ H1 → va_S (fun q => z ≤ q) s.heap H1 locs1 → W p l e R s m args below meth c H1 locs1 (cells + mc) (slots + ms) Q (F0 m (pc + 3) ls (.int r :: rest))) : W p l e R s m args below meth c H locs cells slots Q (F0 m pc ls st) := by
  refine va_calli hr hS (fun q _ h => h) (fun q h => h) (fun r u t H1 locs1 ht hvm hw hB hz1 hk1 hS1 => ?_)
  obtain ⟨hR1, -⟩ := hB
  rw [ht] at hR1
  exact kk r u H1 locs1 hw.1 hw.2.1 hw.2.2 hR1 hS1
theorem xg_v {K : va_W → Prop} (hx : p.tables.exec = Jvm.exec) (hb : c.code = cc) (hr : meth.sig.returnType = none) (hlocks : meth.locks = false) (hk : K X) (hF : xFix z G X) (hXD : va_D (fun q => z ≤ q) X) (hR : xRep D ca G X μ H) (hK : va_K D vwCl (xT ca) s) (hS : va_S (fun q => z ≤ q) s.heap H locs) (hc : cells ≤ mc) (hs : slots ≤ ms) (hdg : decode cc pc = .ok (.return_, 1)) :
    W p l e R s m args below meth c H locs cells slots (MQ below (xQv D ca z G μ K) args s mc ms (fun q => z ≤ q)) (F0 m pc ls []) := by
  refine W.widen hc hs ?_
  exact W.vret hx hb hr (fun t ht hW => ⟨⟨X, rfl, ⟨hk, hF, hXD⟩, by rw [ht]; exact hR, va_K.moved hW.alike hK⟩, hS.F ht⟩) hS.2.2 hdg hlocks
theorem xg_r {K : Nat → va_W → Prop} {q : Nat} {T : FieldType} (hx : p.tables.exec = Jvm.exec) (hb : c.code = cc) (hr : meth.sig.returnType = some T) (hT : (∃ C, T = .object C) ∨ ∃ C, T = .array C) (hlocks : meth.locks = false) (hk : K q X) (hF : xFix z G X) (hXD : va_D (fun q => z ≤ q) X) (hR : xRep D ca G X μ H) (hK : va_K D vwCl (xT ca) s) (hS : va_S (fun q => z ≤ q) s.heap H locs) (hc : cells ≤ mc) (hs : slots ≤ ms) (hdg : decode cc pc = .ok (.areturn, 1)) :
    W p l e R s m args below meth c H locs cells slots (MQ below (xQr D ca z G μ K) args s mc ms (fun q => z ≤ q)) (F0 m pc ls [.ref q]) := by
  refine W.widen hc hs ?_
  exact W.aret hx hb hr hT (Or.inr ⟨_, rfl⟩) (fun t ht hW => ⟨⟨(q, X), q, rfl, ⟨hk, hF, hXD⟩, rfl, by rw [ht]; exact hR, va_K.moved hW.alike hK⟩, hS.F ht⟩) hS.2.2 hdg hlocks
theorem xg_i {K : Int32 → va_W → Prop} {v : Int32} {Rt : FieldType} (hx : p.tables.exec = Jvm.exec) (hb : c.code = cc) (hr : meth.sig.returnType = some Rt) (hn : narrow Rt (.int v) = .int v) (hlocks : meth.locks = false) (hk : K v X) (hF : xFix z G X) (hXD : va_D (fun q => z ≤ q) X) (hR : xRep D ca G X μ H) (hK : va_K D vwCl (xT ca) s) (hS : va_S (fun q => z ≤ q) s.heap H locs) (hc : cells ≤ mc) (hs : slots ≤ ms) (hdg : decode cc pc = .ok (.ireturn, 1)) :
    W p l e R s m args below meth c H locs cells slots (MQ below (xQi D ca z G μ K) args s mc ms (fun q => z ≤ q)) (F0 m pc ls [.int v]) := by
  refine W.widen hc hs ?_
  exact W.zret hx hb hr hn (fun t ht hW => ⟨⟨v, X, rfl, ⟨hk, hF, hXD⟩, by rw [ht]; exact hR, va_K.moved hW.alike hK⟩, hS.F ht⟩) hS.2.2 hdg hlocks
end XSQ
/-- the text: its first n letters are t's; the capacity as it may be -/
def xTx (ca : Nat → ClassId) (sb od : Nat) (fd : Nat → UInt64) (n : Nat) (t : Nat → Nat) (X : va_W) : Prop := ∃ (v cap : Nat) (ml : Int32) (f : Nat → Int32), X = sX ca sb v cap od ml (nI n) f fd ∧ (cap = 16 ∨ cap = 34) ∧ n ≤ cap ∧ sb_Lat t n f ∧ sb_Fit f
theorem xzS {D : va_G} {ca : Nat → ClassId} {z : Nat} {G : xG} {μ : xM} {H : Heap} {sb v cap od : Nat} {ml k : Int32} {f : Nat → Int32} {fd : Nat → UInt64} (hR : xRep D ca G (sX ca sb v cap od ml k f fd) μ H) (hF : xFix z G (sX ca sb v cap od ml k f fd)) : z ≤ H.size := Nat.le_trans (hF.2 0 _ rfl).2 (Nat.le_of_lt (hR.2 0 _ rfl).lt)
