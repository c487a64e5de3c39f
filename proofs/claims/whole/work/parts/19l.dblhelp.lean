/-! the law's row of one double: a further cell of X -/
abbrev xD (ca : Nat → ClassId) (fd : Nat → UInt64) : va_E := .inl (ca 7, 1, .inr (.inr (.inr (.inl fd))))
theorem xFix.setX {z : Nat} {G : xG} {X : va_W} {q0 a : Nat} {v v' : va_E} (hF : xFix z G X) (ha : X[q0]? = some (a, v)) : xFix z G (X.set q0 (a, v')) := by
  refine ⟨hF.1, fun k q hk => ?_⟩
  by_cases h : k = q0
  · subst h
    rw [List.getElem?_set_self (List.getElem?_eq_some_iff.mp ha).1] at hk
    cases hk
    exact hF.2 _ (a, v) ha
  · rw [List.getElem?_set_ne (Ne.symm h)] at hk
    exact hF.2 _ q hk
theorem xRep.setX {D : va_G} {ca : Nat → ClassId} {z : Nat} {G : xG} {X : va_W} {μ : xM} {H H1 : Heap} {q0 a : Nat} {v v' : va_E} (h : xRep D ca G X μ H) (hF : xFix z G X) (hD : va_D (fun q => z ≤ q) X) (ha : X[q0]? = some (a, v)) (hat : va_at D vwCl (a, v') H1) (oq : ∀ q : Nat, q ≠ a → H1[q]? = H[q]?) : xRep D ca G (X.set q0 (a, v')) μ H1 :=
  ⟨fun b => (h.1 b).kept (fun hb => oq b (fun e => hb (by rw [e]; exact (hF.2 _ _ ha).1))) rfl, h.2.set hD ha hat oq⟩
def xMwd (l : Launch) (y : MethodName) (ws : List Cond) (d mc ms : Nat) (D : va_G) (ca : Nat → ClassId) (z : Nat) (G : xG) (X : va_W) (ad av : Nat → Nat) (q0 od : Nat) (as : List Value) (μ : xM) (r : Int32) (u : UInt64) (μ1 : xM) : Prop :=
  Met l y ws (xRm d mc ms) (va_Pc as (xSt D ca z G X ad av μ)) (va_Qi (fun (r' : Int32) (_ : Unit) => r' = r) (fun _ t => ∃ fd : Nat → UInt64, fd 0 = u ∧ xB D ca G (X.set q0 (od, xD ca fd)) μ1 t) (fun q => z ≤ q)) mc ms (fun q => z ≤ q)
theorem xm_wg {l : Launch} {y : MethodName} {ws ws' : List Cond} {d mc ms : Nat} {D : va_G} {ca : Nat → ClassId} {z : Nat} {G : xG} {X : va_W} {ad av : Nat → Nat} {as : List Value} {μ : xM} {Qc : Array Value → State → Outcome → State → Prop} {cc : ByteArray} {nL : Nat} {ty : FieldType} {hh : List (Nat × Nat × Nat × Nat)} (hy : plainName y.cls = true) (hw : ws = .codeWith y cc nL (some ty) hh :: ws') (hn : (lg_sl as).length ≤ nL) (L0 : List (Nat × Value)) (hL : lv_args 0 as = L0)
    (body : ∀ (p : Program) (e : Env) (s : State) (m : MethodId) (args : Array Value) (below : List Frame) (meth : Method) (c : Code) (ls : Array Slot), p.tables.exec = Jvm.exec → c.code = cc → meth.sig.returnType = some ty → c.maxLocals = nL → meth.locks = false → c.exceptionTable.toList = tableOf hh → (∀ w ∈ ws, w.before args s = true) → s.vm.findClass y.cls = some m.cls → va_K D vwCl (xT ca) s → xEv z ad av s s.heap → xRep D ca G X μ s.heap → va_S (fun q => z ≤ q) s.heap s.heap [] → lv_has ls nL L0 →
      W p l e (xRm d mc ms) s m args below meth c s.heap [] 0 0 (MQ below Qc args s mc ms (fun q => z ≤ q)) (F0 m 0 ls [])) : Met l y ws (xRm d mc ms) (va_Pc as (xSt D ca z G X ad av μ)) Qc mc ms (fun q => z ≤ q) := by
  refine xMetH (cc := cc) (maxL := nL) (ret := some ty) (hh := hh) hy hw ?_
  intro p e s m args below meth c s₁ B hml hv
  obtain ⟨rfl, hR, hK, hE⟩ := hv
  have hl := lv_entry as (n := nL) hn
  rw [hL] at hl
  rw [lg_entry_eq]
  have hts := atoms_spec (ws := ws) B.pre
  exact body p e s m _ below meth c _ B.exec B.bytes B.returns hml B.notSynchronized (vx_table (x := y) B (hts _ (by rw [hw]; exact List.mem_cons_self))) hts (findClass_of_methodNamed B.named) hK hE hR va_S.rf hl
section XDD
variable {p : Program} {l : Launch} {e : Env} {R : Room} {s : State} {m : MethodId} {args : Array Value} {below : List Frame} {meth : Method} {c : Code} {H : Heap} {locs : List Loc} {cells slots mc ms : Nat} {Q : State → Prop}
variable {cc : ByteArray} {pc : Nat} {ls : Array Slot} {rest st : List Value} {D : va_G} {ca : Nat → ClassId} {z a b q0 od : Nat} {G : xG} {X : va_W} {μ μ1 : xM} {ad av : Nat → Nat} {r v : Int32} {u : UInt64} {fd : Nat → UInt64} {H0 : Heap}
variable {y : MethodName} {bytes : ByteArray} {maxL nL n index d : Nat} {ws : List Cond} {C : String} {As : List Value} {hh : List (Nat × Nat × Nat × Nat)} {rt : FieldType}
theorem xr_dast (hx : p.tables.exec = Jvm.exec) (hb : c.code = cc) (hK : va_K D vwCl (xT ca) s) (hR : xRep D ca G X μ H) (hF : xFix z G X) (hD : va_D (fun q => z ≤ q) X) (hS : va_S (fun q => z ≤ q) H0 H locs) (ha : X[q0]? = some (a, xD ca fd)) (hdg : decode cc pc = .ok (.dastore, 1))
    (kk : ∀ (H1 : Heap) (locs1 : List Loc) (fd1 : Nat → UInt64), fd1 0 = u → xRep D ca G (X.set q0 (a, xD ca fd1)) μ H1 → va_S (fun q => z ≤ q) H0 H1 locs1 → W p l e R s m args below meth c H1 locs1 cells slots Q (F0 m (pc + 1) ls rest)) : W p l e R s m args below meth c H locs cells slots Q (F0 m pc ls (.double u :: .int 0 :: .ref a :: rest)) := by
  refine W.dast hx hb (hR.2 q0 _ ha) ((hK.2 7 _ rfl).1 1 (fun j => .double (fd j))) (fun q => by cases q) (by show ¬ ((0 : Int32) < 0 ∨ (arrV _ _ _).slots.size ≤ _); rw [arrV_size]; exact vl_0 (N := 1) (by decide)) rfl rfl hdg fun H1 e z9 oq => ?_
  refine kk H1 _ (vf_upd fd 0 u) (by simp [vf_upd]) (hR.setX hF hD ha ?_ oq) (hS.put z9 oq (hF.2 q0 _ ha).2)
  show H1[a]? = some (vp_cell _ _)
  rw [e]
  rw [vp_cell_d, vp_cell_d, arrV_store]
  congr 2
  funext q
  by_cases hq : q = 0
  · subst hq
    simp [updV, vf_upd]
  · have h0 : (0 : Int32).toNatClampNeg = 0 := by decide
    simp [updV, vf_upd, hq, h0]
theorem xr_dald (hx : p.tables.exec = Jvm.exec) (hb : c.code = cc) (hK : va_K D vwCl (xT ca) s) (hR : xRep D ca G X μ H) (ha : X[q0]? = some (a, xD ca fd)) (hu : fd 0 = u) (hdg : decode cc pc = .ok (.daload, 1))
    (kk : W p l e R s m args below meth c H locs cells slots Q (F0 m (pc + 1) ls (.double u :: rest))) : W p l e R s m args below meth c H locs cells slots Q (F0 m pc ls (.int 0 :: .ref a :: rest)) := by
  subst hu
  exact va_dald (i := 0) hx hb hK hR.2 q0 7 ha rfl (vl_0 (N := 1) (by decide)) hdg kk
theorem xf_wd {Rt : FieldType} (hx : p.tables.exec = Jvm.exec) (hb : c.code = cc) (hr : meth.sig.returnType = some Rt) (hn : narrow Rt (.int v) = .int v) (hlocks : meth.locks = false) (hv : v = r) (hu : fd 0 = u) (hR : xRep D ca G (X.set q0 (od, xD ca fd)) μ1 H) (hK : va_K D vwCl (xT ca) s) (hS : va_S (fun q => z ≤ q) s.heap H locs) (hc : cells ≤ mc) (hs : slots ≤ ms) (hdg : decode cc pc = .ok (.ireturn, 1)) :
    W p l e R s m args below meth c H locs cells slots (MQ below (va_Qi (fun (r' : Int32) (_ : Unit) => r' = r) (fun _ t => ∃ fd : Nat → UInt64, fd 0 = u ∧ xB D ca G (X.set q0 (od, xD ca fd)) μ1 t) (fun q => z ≤ q)) args s mc ms (fun q => z ≤ q)) (F0 m pc ls [.int v]) := by
  subst hv
  refine W.widen hc hs ?_
  exact W.zret hx hb hr hn (fun t ht hW => ⟨⟨_, (), rfl, rfl, fd, hu, by rw [ht]; exact hR, va_K.moved hW.alike hK⟩, hS.F ht⟩) hS.2.2 hdg hlocks
theorem xl_callD (S : CallFix p m c cc nL s args xAll RL) (hM : xMwd l y (xwh y bytes maxL (some rt) hh) d mc ms D ca z G X ad av q0 od As μ r u μ1) (fh : xFh y bytes maxL (some rt) hh n) (hl : .methodLink RL index y ∈ xAll) (hd : d + 1 ≤ 2048 ∧ 8 + (maxL + 11) + 64 * d ≤ 94400) (hR : xRep D ca G X μ H) (hK : va_K D vwCl (xT ca) s) (hE : xEv z ad av s s.heap) (hS : va_S (fun q => z ≤ q) s.heap H locs)
    (hn : As.length = n) (hsize : ls.size = nL) (hst : st = As.reverse ++ rest) (hW : (rest.map fun v => v.category).sum ≤ 8) (hdg : decode cc pc = .ok (.invokestatic index, 3)) (hf : cells + mc ≤ 603072 ∧ slots + ms ≤ 7211114)
    (kk : ∀ (H1 : Heap) (locs1 : List Loc) (fd : Nat → UInt64), fd 0 = u → xRep D ca G (X.set q0 (od, xD ca fd)) μ1 H1 → va_S (fun q => z ≤ q) s.heap H1 locs1 → W p l e room_1 s m args below meth c H1 locs1 (cells + mc) (slots + ms) Q (F0 m (pc + 3) ls (.int r :: rest))) : W p l e room_1 s m args below meth c H locs cells slots Q (F0 m pc ls st) := by
  have hG : GoodIn xAll (va_wsS RL index y (xwh y bytes maxL (some rt) hh)) := by
    intro w hw
    have hm : w ∈ xAll := by
      unfold va_wsS at hw
      simp only [List.mem_append, List.mem_cons, List.not_mem_nil, or_false] at hw
      rcases hw with (rfl | rfl | rfl) | rfl | hw
      · exact hl
      · exact fh.1
      · exact fh.2.1
      · exact fh.2.2.1
      · exact hw
    exact ⟨hm, good_of_word (xAll_good w hm)⟩
  have cw : vx_CSW room_1 s args RL index y bytes maxL (some rt) hh (xwh y bytes maxL (some rt) hh) (xRm d mc ms) mc ms n := vx_cwSW n S.2.2.2.2 hG rfl rfl rfl fh.2.2.2 hd
  refine va_calli (vx_runSW (As := As) (rest := rest) S hM cw ⟨xSt_blind, xSt_at hR hK hE hS⟩ rfl hn hsize hst (lv_room hW) hdg hf) hS (fun q _ h => h) (fun q h => h) (fun r1 u1 t H1 locs1 ht hvm hw hB hz1 hk1 hS1 => ?_)
  obtain ⟨fd1, hf1, hR1, -⟩ := hB
  rw [ht] at hR1
  subst hw
  exact kk H1 locs1 fd1 hf1 hR1 hS1
end XDD
