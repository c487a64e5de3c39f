/-! the line: its text as a ghost in the store (x + 249: place 3 the length, from 4 on the letters) -/
def xpc (s : Nat × (Nat → Nat)) (c : Nat) : Nat × (Nat → Nat) := (s.1 + 1, sb_cat s.2 s.1 (fun _ => c))
def xpd (s : Nat × (Nat → Nat)) (v : Nat) : Nat × (Nat → Nat) := (s.1 + sb_dg v, sb_cat s.2 s.1 (sb_dec v))
def xWt (s : Nat × (Nat → Nat)) (a b c lc : Nat) : Nat × (Nat → Nat) := xpc (xpc (xpd (xpc (xpd (xpc (xpd (xpc s 32) a) 47) b) 43) c) 32) lc
def xLt (T a b c lc : Nat) : Nat × (Nat → Nat) := xWt (xpd (xpc (0, fun _ => 0) 35) T) a b c lc
def xgh (x n : Nat) (t : Nat → Nat) (μ : xM) : xM := fun b j => if b = x + 249 then (if j < 4 then (if j = 3 then nI n else μ b j) else nI (t (j - 4))) else μ b j
def xTm (ca : Nat → ClassId) (x od : Nat) (fd : Nat → UInt64) (μ : xM) (X : va_W) : Prop := ∃ (n : Nat) (t : Nat → Nat), xTx ca (x + 249) od fd n t X ∧ μ (x + 249) 3 = nI n ∧ ∀ j, j < n → μ (x + 249) (4 + j) = nI (t j)
theorem xTm_gh {ca : Nat → ClassId} {x od n : Nat} {fd : Nat → UInt64} {t : Nat → Nat} {μ : xM} {X : va_W} (h : xTx ca (x + 249) od fd n t X) : xTm ca x od fd (xgh x n t μ) X := by
  refine ⟨n, t, h, ?_, fun j hj => ?_⟩
  · unfold xgh
    rw [if_pos rfl, if_pos (by decide), if_pos rfl]
  · unfold xgh
    rw [if_pos rfl, if_neg (by omega), Nat.add_sub_cancel_left]
theorem xRep.gh {D : va_G} {ca : Nat → ClassId} {G : xG} {X : va_W} {μ : xM} {H : Heap} {x n : Nat} {t : Nat → Nat} (h : xRep D ca G X μ H) (h0 : G.1 (x + 249) = 0) : xRep D ca G X (xgh x n t μ) H := by
  refine ⟨fun a => ?_, h.2⟩
  by_cases ha : a = x + 249
  · subst ha
    unfold xAt
    rw [if_pos h0]
    trivial
  · exact (h.1 a).kept (fun _ => rfl) (by funext j; unfold xgh; rw [if_neg ha])
theorem xSrT {D : va_G} {ca : Nat → ClassId} {G : xG} {X : va_W} {μ : xM} {s : State} {H : Heap} {sb od n : Nat} {t : Nat → Nat} {fd : Nat → UInt64} (hX : xTx ca sb od fd n t X) (hK : va_K D vwCl (xT ca) s) (hR : xRep D ca G X μ H) : ∃ cell : Cell, H[sb]? = some cell ∧ cell.vm.isStatics = false ∧ s.vm.findClass RJ4 = some cell.cls := by
  obtain ⟨v, cap, ml, f, rfl, -⟩ := hX
  exact xSr hK hR
def xMxl (l : Launch) (y : MethodName) (ws : List Cond) (d mc ms : Nat) (D : va_G) (ca : Nat → ClassId) (z : Nat) (G : xG) (X : va_W) (ad av : Nat → Nat) (as : List Value) (μ : xM) (o : xO) (K : va_W → Prop) (μ1 : xM) : Prop :=
  vx_Met l y ws (xRm d mc ms) (va_Pc as (xSt D ca z G X ad av μ)) (va_Qi (fun (r' : Int32) (X1 : va_W) => (o.1 = 0 ∧ r' = o.2) ∧ K X1 ∧ xFix z G X1 ∧ va_D (fun q => z ≤ q) X1) (fun X1 t => xB D ca G X1 μ1 t) (fun q => z ≤ q)) (xXC D ca z G X μ1 o) mc ms (fun q => z ≤ q)
theorem xm_xl {l : Launch} {y : MethodName} {ws ws' : List Cond} {d mc ms : Nat} {D : va_G} {ca : Nat → ClassId} {z : Nat} {G : xG} {X : va_W} {ad av : Nat → Nat} {as : List Value} {μ μ1 : xM} {o : xO} {K : va_W → Prop} {cc : ByteArray} {nL : Nat} {ty : FieldType} (hy : plainName y.cls = true) (hw : ws = .code y cc nL (some ty) :: ws') (hn : (lg_sl as).length ≤ nL) (L0 : List (Nat × Value)) (hL : lv_args 0 as = L0)
    (body : ∀ (p : Program) (e : Env) (s : State) (m : MethodId) (args : Array Value) (below : List Frame) (meth : Method) (c : Code) (ls : Array Slot), p.tables.exec = Jvm.exec → c.code = cc → meth.sig.returnType = some ty → c.maxLocals = nL → meth.locks = false → (∀ x ∈ c.exceptionTable.toList, False) → (∀ w ∈ ws, w.before args s = true) → s.vm.findClass y.cls = some m.cls → va_K D vwCl (xT ca) s → xEv z ad av s s.heap → xRep D ca G X μ s.heap → va_S (fun q => z ≤ q) s.heap s.heap [] → lv_has ls nL L0 →
      W p l e (xRm d mc ms) s m args below meth c s.heap [] 0 0 (vx_MQ below (va_Qi (fun (r' : Int32) (X1 : va_W) => (o.1 = 0 ∧ r' = o.2) ∧ K X1 ∧ xFix z G X1 ∧ va_D (fun q => z ≤ q) X1) (fun X1 t => xB D ca G X1 μ1 t) (fun q => z ≤ q)) (xXC D ca z G X μ1 o) args s mc ms (fun q => z ≤ q)) (F0 m 0 ls [])) : xMxl l y ws d mc ms D ca z G X ad av as μ o K μ1 := by
  refine vx_ofW (cc := cc) (maxL := nL) (ret := some ty) hy hw ?_
  intro p e s m args below meth c s₁ B hml hex hv
  obtain ⟨rfl, hR, hK, hE⟩ := hv
  have hl := lv_entry as (n := nL) hn
  rw [hL] at hl
  rw [lg_entry_eq]
  exact body p e s m _ below meth c _ B.exec B.bytes B.returns hml B.notSynchronized hex (atoms_spec (ws := ws) B.pre) (findClass_of_methodNamed B.named) hK hE hR va_S.rf hl
section XLL
variable {p : Program} {l : Launch} {e : Env} {R : Room} {s : State} {m : MethodId} {args : Array Value} {below : List Frame} {meth : Method} {c : Code} {H : Heap} {locs : List Loc} {cells slots mc ms : Nat} {Q : State → Prop}
variable {cc : ByteArray} {pc : Nat} {ls : Array Slot} {rest st : List Value} {D : va_G} {ca : Nat → ClassId} {z b : Nat} {G : xG} {X : va_W} {μ μ1 : xM} {ad av : Nat → Nat} {r v : Int32} {o : xO} {K : va_W → Prop}
variable {y : MethodName} {bytes : ByteArray} {maxL nL n index d : Nat} {ws Ts : List Cond} {own C : String} {As : List Value} {rt : FieldType} {hh : List (Nat × Nat × Nat × Nat)}
theorem xe_xl {X1 : va_W} {Rt : FieldType} (hx : p.tables.exec = Jvm.exec) (hb : c.code = cc) (hr : meth.sig.returnType = some Rt) (hn : narrow Rt (.int v) = .int v) (hlocks : meth.locks = false) (ho : o = (0, v)) (hk : K X1) (hF : xFix z G X1) (hXD : va_D (fun q => z ≤ q) X1) (hR : xRep D ca G X1 μ1 H) (hK : va_K D vwCl (xT ca) s) (hS : va_S (fun q => z ≤ q) s.heap H locs) (hc : cells ≤ mc) (hs : slots ≤ ms) (hdg : decode cc pc = .ok (.ireturn, 1)) :
    W p l e R s m args below meth c H locs cells slots (vx_MQ below (va_Qi (fun (r' : Int32) (X1 : va_W) => (o.1 = 0 ∧ r' = o.2) ∧ K X1 ∧ xFix z G X1 ∧ va_D (fun q => z ≤ q) X1) (fun X1 t => xB D ca G X1 μ1 t) (fun q => z ≤ q)) (xXC D ca z G X μ1 o) args s mc ms (fun q => z ≤ q)) (F0 m pc ls [.int v]) := by
  subst ho
  refine W.widen hc hs (vx_ret ?_)
  exact W.zret (v := v) hx hb hr hn (fun t ht hW => ⟨⟨v, X1, rfl, ⟨⟨rfl, rfl⟩, hk, hF, hXD⟩, by rw [ht]; exact hR, va_K.moved hW.alike hK⟩, hS.F ht⟩) hS.2.2 hdg hlocks
theorem xy_lV (S : CallFix p m c cc nL s args Ts own) (hM : xMxl l y ws d mc ms D ca z G X ad av (.ref b :: As) μ (0, r) K μ1) (cw : CallW R s args own C index y bytes maxL (some rt) ws (xRm d mc ms) mc ms n) (hrv : ∃ cell : Cell, H[b]? = some cell ∧ cell.vm.isStatics = false ∧ s.vm.findClass C = some cell.cls) (hR : xRep D ca G X μ H) (hK : va_K D vwCl (xT ca) s) (hE : xEv z ad av s s.heap) (hS : va_S (fun q => z ≤ q) s.heap H locs)
    (hn : As.length = n) (hsize : ls.size = nL) (hst : st = As.reverse ++ .ref b :: rest) (hW : (rest.map fun v => v.category).sum ≤ 8) (hdg : decode cc pc = .ok (.invokevirtual index, 3)) (hf : cells + mc ≤ R.cells ∧ slots + ms ≤ R.slots)
    (kk : ∀ (X1 : va_W) (H1 : Heap) (locs1 : List Loc), K X1 → xFix z G X1 → va_D (fun q => z ≤ q) X1 → xRep D ca G X1 μ1 H1 → va_S (fun q => z ≤ q) s.heap H1 locs1 → W p l e R s m args below meth c H1 locs1 (cells + mc) (slots + ms) Q (F0 m (pc + 3) ls (.int r :: rest))) : W p l e R s m args below meth c H locs cells slots Q (F0 m pc ls st) := by
  refine vx_calli (vx_runV (As := As) (rest := rest) S hM cw ⟨xSt_blind, hrv, xSt_at hR hK hE hS⟩ rfl hn hsize hst (lv_room hW) hdg hf) hS (fun q _ h => h) (fun q h => h) (fun q _ h => h) (fun E ce q9 u t H1 locs1 ht hvm hp => absurd rfl hp) (fun r1 u t H1 locs1 ht hvm hw hB hz1 hk1 hS1 => ?_)
  obtain ⟨hR1, -⟩ := hB
  rw [ht] at hR1
  obtain ⟨⟨-, rfl⟩, k1, k2, k3⟩ := hw
  exact kk u H1 locs1 k1 k2 k3 hR1 hS1
theorem xz_lV {e1 : Nat} (S : CallFix p m c cc nL s args Ts own) (hM : xMxl l y ws d mc ms D ca z G X ad av (.ref b :: As) μ (e1 + 1, r) K μ1) (cw : CallW R s args own C index y bytes maxL (some rt) ws (xRm d mc ms) mc ms n) (hrv : ∃ cell : Cell, H[b]? = some cell ∧ cell.vm.isStatics = false ∧ s.vm.findClass C = some cell.cls) (hR : xRep D ca G X μ H) (hK : va_K D vwCl (xT ca) s) (hE : xEv z ad av s s.heap) (hS : va_S (fun q => z ≤ q) s.heap H locs)
    (hn : As.length = n) (hsize : ls.size = nL) (hst : st = As.reverse ++ .ref b :: rest) (hW : (rest.map fun v => v.category).sum ≤ 8) (hdg : decode cc pc = .ok (.invokevirtual index, 3)) (hf : cells + mc ≤ R.cells ∧ slots + ms ≤ R.slots)
    (kx : ∀ (ce : Cell) (q9 : Addr) (H1 : Heap) (locs1 : List Loc), xRep D ca G X μ1 H1 → va_S (fun q => z ≤ q) s.heap H1 locs1 → H1[q9]? = some ce → ce.vm = .none → s.vm.findClass (xE (e1 + 1)) = some ce.cls → vx_W p l e R s m args below meth c H1 locs1 (cells + mc) (slots + ms) Q (F0 m pc ls rest) q9) : W p l e R s m args below meth c H locs cells slots Q (F0 m pc ls st) := by
  refine vx_calli (vx_runV (As := As) (rest := rest) S hM cw ⟨xSt_blind, hrv, xSt_at hR hK hE hS⟩ rfl hn hsize hst (lv_room hW) hdg hf) hS (fun q _ h => h) (fun q h => h) (fun q _ h => h) (fun E ce q9 u t H1 locs1 ht hvm hp hB hz hk hS1 h1 h2 h3 => ?_) (fun r1 u t H1 locs1 ht hvm hw => absurd hw.1.1 (Nat.succ_ne_zero _))
  obtain ⟨rfl, hR1, -⟩ := hB
  rw [ht] at hR1
  exact kx ce q9 H1 locs1 hR1 hS1 h1 h2 h3
end XLL
