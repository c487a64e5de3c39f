/-! constructors: their form, the layout, the finished cells -/
def xSc (D : va_G) (ca : Nat → ClassId) (z : Nat) (G : xG) (X : va_W) (ad av : Nat → Nat) (μ : xM) (n : Nat) (U : State) : Prop := xSt D ca z G X ad av μ U ∧ xAO U ∧ U.heap.size = n
theorem xSc_blind {D : va_G} {ca : Nat → ClassId} {z n : Nat} {G : xG} {X : va_W} {ad av : Nat → Nat} {μ : xM} {as : List Value} : FrameBlind (va_Pc as (xSc D ca z G X ad av μ n)) := by
  intro a U g mk q
  obtain ⟨q0, q1, q2, q3⟩ := q
  exact ⟨q0, (xSt_blind (as := as) a U g mk ⟨q0, q1⟩).2, q2.moved (U := U.calling g mk a) (Vm.Alike.refl U.vm), q3⟩
theorem xSc_at {D : va_G} {ca : Nat → ClassId} {z n : Nat} {G : xG} {X : va_W} {ad av : Nat → Nat} {μ : xM} {s : State} {H : Heap} {locs : List Loc} {as : List Value} (hR : xRep D ca G X μ H) (hK : va_K D vwCl (xT ca) s) (hE : xEv z ad av s s.heap) (hS : va_S (fun q => z ≤ q) s.heap H locs) (hA : xAO s) (hs : H.size = n) : ∀ U : State, U.heap = H → s.WarmedH U.vm → va_Pc as (xSc D ca z G X ad av μ n) as.toArray U := by
  intro U hU hW
  exact ⟨rfl, (xSt_at (as := as) hR hK hE hS U hU hW).2, hA.moved hW.alike, by rw [hU]; exact hs⟩
theorem xHs {D : va_G} {ca : Nat → ClassId} {z N : Nat} {G : xG} {X : va_W} {μ : xM} {H : Heap} (hO : xOcc z G X N) (hz : z < N) (hR : xRep D ca G X μ H) : N ≤ H.size := by
  rcases hO (N - 1) (by omega) (by omega) with h | ⟨k, q, hk, e⟩
  · have := ((xAt_e9 h).mp (hR.1 (N - 1))).lt
    have h2 : N - 1 < H.size := this
    omega
  · have := (hR.2 k q hk).lt
    omega
def xCt (l : Launch) (y : MethodName) (ws : List Cond) (d mc ms : Nat) (D : va_G) (ca : Nat → ClassId) (z : Nat) (G : xG) (S : Nat → Bool) (X : va_W) (ad av : Nat → Nat) (as : List Value) (μ : xM) (n : Nat) (S1 : Nat → Bool) (X1 : va_W) : Prop :=
  Met l y ws (xRm d mc ms) (va_Pc as (xSc D ca z (xGs G S) X ad av μ n)) (va_Qv (fun (_ : Unit) => xFix z (xGs G S1) X1 ∧ va_D (fun q => z ≤ q) X1 ∧ xOcc z (xGs G S1) X1 (n + mc)) (fun _ t => xB D ca (xGs G S1) X1 μ t) (fun q => z ≤ q)) mc ms (fun q => z ≤ q)
theorem xm_c {l : Launch} {y : MethodName} {ws ws' : List Cond} {d mc ms : Nat} {D : va_G} {ca : Nat → ClassId} {z n : Nat} {G : xG} {S S1 : Nat → Bool} {X X1 : va_W} {ad av : Nat → Nat} {as : List Value} {μ : xM} {cc : ByteArray} {nL : Nat} (hy : plainName y.cls = true) (hyn : y.name = "<init>") (hw : ws = .code y cc nL none :: ws') (hn : (lg_sl as).length ≤ nL) (L0 : List (Nat × Value)) (hL : lv_args 0 as = L0)
    (body : ∀ (p : Program) (e : Env) (s : State) (m : MethodId) (args : Array Value) (below : List Frame) (meth : Method) (c : Code) (ls : Array Slot), p.tables.exec = Jvm.exec → c.code = cc → meth.sig.returnType = none → c.maxLocals = nL → meth.locks = false → meth.name = "<init>" → (∀ w ∈ ws, w.before args s = true) → s.vm.findClass y.cls = some m.cls → va_K D vwCl (xT ca) s → xEv z ad av s s.heap → xRep D ca (xGs G S) X μ s.heap → va_S (fun q => z ≤ q) s.heap s.heap [] → xAO s → s.heap.size = n → lv_has ls nL L0 →
      W p l e (xRm d mc ms) s m args below meth c s.heap [] 0 0 (MQ below (va_Qv (fun (_ : Unit) => xFix z (xGs G S1) X1 ∧ va_D (fun q => z ≤ q) X1 ∧ xOcc z (xGs G S1) X1 (n + mc)) (fun _ t => xB D ca (xGs G S1) X1 μ t) (fun q => z ≤ q)) args s mc ms (fun q => z ≤ q)) (F0 m 0 ls [])) : xCt l y ws d mc ms D ca z G S X ad av as μ n S1 X1 := by
  refine Met.ofW (cc := cc) (maxL := nL) (ret := none) hy hw ?_
  intro p e s m args below meth c s₁ B hml hv
  obtain ⟨rfl, ⟨hR, hK, hE⟩, hA, hs⟩ := hv
  have hl := lv_entry as (n := nL) hn
  rw [hL] at hl
  rw [lg_entry_eq]
  exact body p e s m _ below meth c _ B.exec B.bytes B.returns hml B.notSynchronized ((name_of_methodNamed B.named B.method).1.trans hyn) (atoms_spec (ws := ws) B.pre) (findClass_of_methodNamed B.named) hK hE hR va_S.rf hA hs hl
section XCI
variable {p : Program} {l : Launch} {e : Env} {R : Room} {s : State} {m : MethodId} {args : Array Value} {below : List Frame} {meth : Method} {c : Code} {H : Heap} {locs : List Loc} {cells slots mc ms : Nat} {Q : State → Prop}
variable {cc : ByteArray} {pc : Nat} {ls : Array Slot} {rest st : List Value} {D : va_G} {ca : Nat → ClassId} {z b n N0 : Nat} {G : xG} {S S1 : Nat → Bool} {X X1 : va_W} {μ : xM} {ad av : Nat → Nat}
variable {y : MethodName} {bytes : ByteArray} {maxL nL index d k : Nat} {own host : String} {As : List Value}
theorem xg_c (hx : p.tables.exec = Jvm.exec) (hb : c.code = cc) (hr : meth.sig.returnType = none) (hlocks : meth.locks = false) (hF : xFix z (xGs G S1) X1) (hXD : va_D (fun q => z ≤ q) X1) (hO : xOcc z (xGs G S1) X1 N0) (hN0 : N0 = n + mc) (hR : xRep D ca (xGs G S1) X1 μ H) (hK : va_K D vwCl (xT ca) s) (hS : va_S (fun q => z ≤ q) s.heap H locs) (hc : cells ≤ mc) (hs : slots ≤ ms) (hdg : decode cc pc = .ok (.return_, 1)) :
    W p l e R s m args below meth c H locs cells slots (MQ below (va_Qv (fun (_ : Unit) => xFix z (xGs G S1) X1 ∧ va_D (fun q => z ≤ q) X1 ∧ xOcc z (xGs G S1) X1 (n + mc)) (fun _ t => xB D ca (xGs G S1) X1 μ t) (fun q => z ≤ q)) args s mc ms (fun q => z ≤ q)) (F0 m pc ls []) := by
  refine W.widen hc hs ?_
  exact W.vret hx hb hr (fun t ht hW => ⟨⟨(), rfl, ⟨hF, hXD, hN0 ▸ hO⟩, by rw [ht]; exact hR, va_K.moved hW.alike hK⟩, hS.F ht⟩) hS.2.2 hdg hlocks
theorem xcwI {R : Room} {s : State} {args : Array Value} {own : String} {index maxL d mc ms : Nat} {y : MethodName} {bytes : ByteArray} (n : Nat) (hts : ∀ w ∈ xAll, w.before args s = true) (hi : .instanceMethod y ∈ xAll) (hini : .initialized y.cls ∈ xAll) (hcode : .code y bytes maxL none ∈ xAll) (hy : y.cls ≠ "java/lang/invoke/MethodHandle" ∧ y.cls ≠ "java/lang/invoke/VarHandle" ∧ (parseMethodDescriptor y.desc).map (fun d => d.parameters.length) = some n) (hyn : y.name = "<init>") (hl : .methodLink own index y ∈ xAll) (hR : (xRm d mc ms).frames + 1 ≤ R.frames ∧ 8 + (maxL + 11) + (xRm d mc ms).locals ≤ R.locals) : CallB R s args own index y bytes maxL none (xws y bytes maxL none) (xRm d mc ms) mc ms n ∧ y.name = "<init>" ∧ (Cond.instanceMethod y).before args s = true :=
  ⟨callB_of n hts (xgood hcode) rfl rfl rfl (hts _ hini) (hts _ hl) hy hR, hyn, hts _ hi⟩
theorem xcwIN {R : Room} {s : State} {args : Array Value} {own host : String} {index maxL d mc ms : Nat} {y : MethodName} {bytes : ByteArray} (n : Nat) (hts : ∀ w ∈ xAll, w.before args s = true) (hi : .instanceMethod y ∈ xAll) (hini : .initialized y.cls ∈ xAll) (hcode : .code y bytes maxL none ∈ xAll) (hy : y.cls ≠ "java/lang/invoke/MethodHandle" ∧ y.cls ≠ "java/lang/invoke/VarHandle" ∧ (parseMethodDescriptor y.desc).map (fun d => d.parameters.length) = some n) (hyn : y.name = "<init>") (hl : va_Nw (.methodLinkNest own index y host) s) (hR : (xRm d mc ms).frames + 1 ≤ R.frames ∧ 8 + (maxL + 11) + (xRm d mc ms).locals ≤ R.locals) : va_CN R s args own index y host bytes maxL none (xws y bytes maxL none) (xRm d mc ms) mc ms n ∧ y.name = "<init>" ∧ (Cond.instanceMethod y).before args s = true :=
  ⟨va_cnB n hts (xgood hcode) rfl rfl rfl hl (hts _ hini) hy hR, hyn, hts _ hi⟩
/-- a constructor's call -/
theorem xc_ini (S9 : CallFix p m c cc nL s args xAll own) (hM : xCt l y (xws y bytes maxL none) d mc ms D ca z G S X ad av (.ref b :: As) μ n S1 X1) (cw : CallB R s args own index y bytes maxL none (xws y bytes maxL none) (xRm d mc ms) mc ms k ∧ y.name = "<init>" ∧ (Cond.instanceMethod y).before args s = true) (hR : xRep D ca (xGs G S) X μ H) (hK : va_K D vwCl (xT ca) s) (hE : xEv z ad av s s.heap) (hA : xAO s) (hS : va_S (fun q => z ≤ q) s.heap H locs) (hsz : s.heap.size = N0) (hO : xOcc z (xGs G S) X n) (hn : N0 + cells = n) (hz : z < n)
    (hk : As.length = k) (hsize : ls.size = nL) (hst : st = As.reverse ++ .ref b :: rest) (hW : (rest.map fun v => v.category).sum ≤ 8) (hdg : decode cc pc = .ok (.invokespecial index, 3)) (hf : cells + mc ≤ R.cells ∧ slots + ms ≤ R.slots)
    (kk : ∀ (H1 : Heap) (locs1 : List Loc), xRep D ca (xGs G S1) X1 μ H1 → xFix z (xGs G S1) X1 → va_D (fun q => z ≤ q) X1 → va_S (fun q => z ≤ q) s.heap H1 locs1 → xOcc z (xGs G S1) X1 (n + mc) → W p l e R s m args below meth c H1 locs1 (cells + mc) (slots + ms) Q (F0 m (pc + 3) ls rest)) : W p l e R s m args below meth c H locs cells slots Q (F0 m pc ls st) := by
  refine xW_sz (fun hz1 => ?_)
  have hs : H.size = n := by
    have := xHs hO hz hR
    omega
  refine va_callv (va_runI (As := As) (rest := rest) S9 hM cw ⟨xSc_blind, xSc_at hR hK hE hS hA hs⟩ rfl hk hsize hst (lv_room hW) hdg hf) hS (fun q _ h => h) (fun q h => h) (fun u t H1 locs1 ht hvm hw hB hz1 hk1 hS1 => ?_)
  obtain ⟨hR1, -⟩ := hB
  rw [ht] at hR1
  exact kk H1 locs1 hR1 hw.1 hw.2.1 hS1 hw.2.2
theorem xc_inN (S9 : CallFix p m c cc nL s args xAll own) (hM : xCt l y (xws y bytes maxL none) d mc ms D ca z G S X ad av (.ref b :: As) μ n S1 X1) (cw : va_CN R s args own index y host bytes maxL none (xws y bytes maxL none) (xRm d mc ms) mc ms k ∧ y.name = "<init>" ∧ (Cond.instanceMethod y).before args s = true) (hR : xRep D ca (xGs G S) X μ H) (hK : va_K D vwCl (xT ca) s) (hE : xEv z ad av s s.heap) (hA : xAO s) (hS : va_S (fun q => z ≤ q) s.heap H locs) (hsz : s.heap.size = N0) (hO : xOcc z (xGs G S) X n) (hn : N0 + cells = n) (hz : z < n)
    (hk : As.length = k) (hsize : ls.size = nL) (hst : st = As.reverse ++ .ref b :: rest) (hW : (rest.map fun v => v.category).sum ≤ 8) (hdg : decode cc pc = .ok (.invokespecial index, 3)) (hf : cells + mc ≤ R.cells ∧ slots + ms ≤ R.slots)
    (kk : ∀ (H1 : Heap) (locs1 : List Loc), xRep D ca (xGs G S1) X1 μ H1 → xFix z (xGs G S1) X1 → va_D (fun q => z ≤ q) X1 → va_S (fun q => z ≤ q) s.heap H1 locs1 → xOcc z (xGs G S1) X1 (n + mc) → W p l e R s m args below meth c H1 locs1 (cells + mc) (slots + ms) Q (F0 m (pc + 3) ls rest)) : W p l e R s m args below meth c H locs cells slots Q (F0 m pc ls st) := by
  refine xW_sz (fun hz1 => ?_)
  have hs : H.size = n := by
    have := xHs hO hz hR
    omega
  refine va_callv (va_runIN (As := As) (rest := rest) S9 hM cw ⟨xSc_blind, xSc_at hR hK hE hS hA hs⟩ rfl hk hsize hst (lv_room hW) hdg hf) hS (fun q _ h => h) (fun q h => h) (fun u t H1 locs1 ht hvm hw hB hz1 hk1 hS1 => ?_)
  obtain ⟨hR1, -⟩ := hB
  rw [ht] at hR1
  exact kk H1 locs1 hR1 hw.1 hw.2.1 hS1 hw.2.2
theorem xn_obj (hx : p.tables.exec = Jvm.exec) (hb : c.code = cc) (hts : ∀ w ∈ xAll, w.before args s = true) (hown : s.vm.findClass own = some m.cls) (hl : .methodLink own index Lib.objectInit ∈ xAll) (hsize : ls.size = c.maxLocals) (hW : (rest.map fun v => v.category).sum + 12 ≤ R.locals) (hRf : 1 ≤ R.frames) (hdg : decode cc pc = .ok (.invokespecial index, 3))
    (hi : .instanceMethod Lib.objectInit ∈ xAll) (hcode : .code Lib.objectInit ⟨#[0xb1]⟩ 1 none ∈ xAll) (kk : W p l e R s m args below meth c H locs cells slots Q (F0 m (pc + 3) ls rest)) : W p l e R s m args below meth c H locs cells slots Q (F0 m pc ls (.ref b :: rest)) :=
  W.objInit hx hb hown (hts _ hl) (hts _ hi) (hts _ hcode) rfl hsize rfl hdg hRf (by show 2 * 0 + _ + 12 ≤ _; omega) kk
end XCI
-- finished cells
theorem xAbO {D : va_G} {ca : Nat → ClassId} {G : xG} {μ : xM} {a ci N : Nat} {C : String} {T : u_T} {fs : List Value} {H : Heap} (hk : G.1 a = ci + 1) (hc : vwCl[ci]? = some (C, T, N)) (hv : ∀ k, k < N → vp_V fs k = xV G μ ci a k) (h : va_at D vwCl (a, .inr (ci, fs)) H) : xAt D ca G μ a H := by
  obtain ⟨r, e1, e2⟩ := h
  rw [show vwCl[ci]? = some r from e1] at hc
  cases hc
  exact (xAt_obj hk e1).mpr (e2.to hv)
theorem xAbI {D : va_G} {ca : Nat → ClassId} {G : xG} {μ : xM} {a t n : Nat} {f : Nat → Int32} {H : Heap} (ht : t < 3) (hk : G.1 a = 101 + t) (hn : G.2.2 a = n) (hf : μ a = f) (h : va_at D vwCl (a, .inl (ca t, n, .inl f)) H) : xAt D ca G μ a H := by
  refine (xAt_num ht hk).mpr ?_
  rw [hn, hf]
  exact h
theorem xAbR {D : va_G} {ca : Nat → ClassId} {G : xG} {μ : xM} {a t n : Nat} {f : Nat → Option Nat} {H : Heap} (ht : t < 3) (hk : G.1 a = 111 + t) (hn : G.2.2 a = n) (hf : G.2.1 a = f) (h : va_at D vwCl (a, .inl (ca (4 + t), n, .inr (.inr (.inr (.inr f))))) H) : xAt D ca G μ a H := by
  refine (xAt_refs ht hk).mpr ?_
  rw [hn, hf]
  exact h
def xRg (S : Nat → Bool) (lo hi : Nat) : Nat → Bool := fun a => S a || (decide (lo ≤ a) && decide (a < hi))
theorem xRg_hi {S : Nat → Bool} {lo hi : Nat} (h : lo ≤ hi) : xRg S lo (hi + 1) hi = true ∧ ∀ b, b ≠ hi → xRg S lo (hi + 1) b = xRg S lo hi b := by
  refine ⟨?_, fun b hb => ?_⟩
  · unfold xRg
    rw [decide_eq_true h, decide_eq_true (Nat.lt_succ_self hi)]
    simp
  · unfold xRg
    rw [show decide (b < hi + 1) = decide (b < hi) from decide_eq_decide.mpr (by omega)]
theorem xRg_lo {S : Nat → Bool} {lo hi : Nat} (h : lo < hi) : xRg S lo hi lo = true ∧ ∀ b, b ≠ lo → xRg S lo hi b = xRg S (lo + 1) hi b := by
  refine ⟨?_, fun b hb => ?_⟩
  · unfold xRg
    rw [decide_eq_true (Nat.le_refl lo), decide_eq_true h]
    simp
  · unfold xRg
    rw [show decide (lo ≤ b) = decide (lo + 1 ≤ b) from decide_eq_decide.mpr (by omega)]
theorem xRg_un {S : Nat → Bool} {lo mid hi : Nat} (h1 : lo ≤ mid) (h2 : mid ≤ hi) : xRg (xRg S lo mid) mid hi = xRg S lo hi := by
  funext a
  unfold xRg
  by_cases h3 : lo ≤ a <;> by_cases h4 : a < mid <;> by_cases h5 : mid ≤ a <;> by_cases h6 : a < hi <;> simp [h3, h4, h5, h6] <;> omega
theorem xRg_nil {S : Nat → Bool} {a : Nat} : xRg S a a = S := by
  funext b
  unfold xRg
  by_cases h1 : a ≤ b <;> by_cases h2 : b < a <;> simp [h1, h2] <;> omega
-- the layout, with the first values
def xL_Nul (k : Nat) (G : xG) (μ : xM) (a : Nat) : Prop := G.1 a = k ∧ ∀ j, μ a j = 0
def xrf (n st a : Nat) : Nat → Option Nat := fun j => if j < n then some (a + st * j) else none
def xL_Bank (G : xG) (μ : xM) (b : Nat) : Prop := (G.1 b = 5 ∧ G.2.1 b 0 = some (b + 1) ∧ G.2.1 b 1 = some (b + 18) ∧ G.2.1 b 2 = some (b + 19)) ∧ (μ b 3 = 0 ∧ μ b 4 = 0 ∧ μ b 5 = 20 ∧ μ b 6 = 5 ∧ μ b 7 = 2000) ∧ (G.1 (b + 1) = 113 ∧ G.2.2 (b + 1) = 16 ∧ G.2.1 (b + 1) = xrf 16 1 (b + 2)) ∧ (∀ t, t < 16 → xL_Nul 10 G μ (b + 2 + t)) ∧ (G.1 (b + 18) = 101 ∧ G.2.2 (b + 18) = 6 ∧ μ (b + 18) = fun _ => 0) ∧ (G.1 (b + 19) = 101 ∧ G.2.2 (b + 19) = 6 ∧ μ (b + 19) = fun _ => 0)
def xL_History (G : xG) (μ : xM) (h : Nat) : Prop := (G.1 h = 7 ∧ G.2.1 h 0 = some (h + 1)) ∧ (μ h 1 = 0 ∧ μ h 2 = 0) ∧ (G.1 (h + 1) = 111 ∧ G.2.2 (h + 1) = 8 ∧ G.2.1 (h + 1) = xrf 8 20 (h + 2)) ∧ ∀ t, t < 8 → xL_Bank G μ (h + 2 + 20 * t)
def xL_Input (G : xG) (μ : xM) (n : Nat) : Prop := (G.1 n = 8 ∧ G.2.1 n 0 = some (n + 1) ∧ G.2.1 n 1 = some (n + 2)) ∧ (μ n 2 = 0 ∧ μ n 3 = 0 ∧ μ n 4 = 0) ∧ (G.1 (n + 1) = 102 ∧ G.2.2 (n + 1) = 60 ∧ μ (n + 1) = fun _ => 0) ∧ (G.1 (n + 2) = 112 ∧ G.2.2 (n + 2) = 20 ∧ G.2.1 (n + 2) = xrf 20 1 (n + 3)) ∧ ∀ t, t < 20 → xL_Nul 9 G μ (n + 3 + t)
def xL_Coat (G : xG) (μ : xM) (x : Nat) : Prop := (G.1 x = 12 ∧ G.2.1 x 0 = some (x + 1) ∧ G.2.1 x 1 = some (x + 21) ∧ G.2.1 x 2 = some (x + 41) ∧ G.2.1 x 4 = some (x + 61) ∧ G.2.1 x 5 = some (x + 223) ∧ G.2.1 x 6 = some (x + 224) ∧ G.2.1 x 7 = some (x + 225) ∧ G.2.1 x 8 = some (x + 248) ∧ G.2.1 x 9 = some (x + 249)) ∧ (μ x 3 = 0 ∧ μ x 10 = -1) ∧ xL_Bank G μ (x + 1) ∧ xL_Bank G μ (x + 21) ∧ xL_Bank G μ (x + 41) ∧ xL_History G μ (x + 61) ∧ xL_Nul 6 G μ (x + 223) ∧ xL_Nul 9 G μ (x + 224) ∧ xL_Input G μ (x + 225) ∧ xL_Nul 11 G μ (x + 248) ∧ (G.1 (x + 249) = 0 ∧ G.1 (x + 250) = 0)
def xL_Model (G : xG) (μ : xM) (m : Nat) : Prop := (G.1 m = 13 ∧ G.2.1 m 0 = some (m + 1) ∧ G.2.1 m 1 = some (m + 2) ∧ G.2.1 m 2 = some (m + 3) ∧ G.2.1 m 3 = some (m + 4) ∧ G.2.1 m 12 = some (m + 5) ∧ G.2.1 m 15 = some (m + 6) ∧ G.2.1 m 18 = some (m + 7)) ∧ (∀ k, k ≠ 10 → k ≠ 14 → μ m k = 0) ∧ (μ m 10 = -1 ∧ μ m 14 = -1) ∧ (G.1 (m + 1) = 101 ∧ G.2.2 (m + 1) = 199 ∧ μ (m + 1) = upd (upd (upd (fun _ => 0) 2 20) 3 5) 4 2000) ∧ (G.1 (m + 2) = 101 ∧ G.2.2 (m + 2) = 1592 ∧ μ (m + 2) = fun _ => 0) ∧ (G.1 (m + 3) = 101 ∧ G.2.2 (m + 3) = 199 ∧ μ (m + 3) = fun _ => 0) ∧ (G.1 (m + 4) = 101 ∧ G.2.2 (m + 4) = 199 ∧ μ (m + 4) = fun _ => 0) ∧ (G.1 (m + 5) = 101 ∧ G.2.2 (m + 5) = 60 ∧ μ (m + 5) = fun _ => 0) ∧ (G.1 (m + 6) = 102 ∧ G.2.2 (m + 6) = 32 ∧ μ (m + 6) = fun _ => 0) ∧ (G.1 (m + 7) = 101 ∧ G.2.2 (m + 7) = 124 ∧ μ (m + 7) = fun _ => 0)
theorem xAbN {D : va_G} {ca : Nat → ClassId} {G : xG} {μ : xM} {a ci N : Nat} {C : String} {T : u_T} {H : Heap} (hL : xL_Nul (ci + 1) G μ a) (hc : vwCl[ci]? = some (C, T, N)) (hx : ∀ k, k < N → xref ci k = false) (h : va_at D vwCl (a, .inr (ci, List.replicate N (.int 0))) H) : xAt D ca G μ a H := by
  refine xAbO hL.1 hc (fun k hk => ?_) h
  unfold vp_V xV
  rw [List.getD_eq_getElem?_getD, List.getElem?_replicate, if_pos hk, hx k hk, if_neg (by decide), hL.2 k]
  rfl
theorem xrf_up {n st a t : Nat} (ht : t < n) : va_up (fun j => if j < t then some (a + st * j) else none) t (some (a + st * t)) = fun j => if j < t + 1 then some (a + st * j) else none := by
  funext j
  show (if j = t then some (a + st * t) else (if j < t then some (a + st * j) else none)) = (if j < t + 1 then some (a + st * j) else none)
  by_cases h : j = t
  · subst h
    rw [if_pos rfl, if_pos (Nat.lt_succ_self _)]
  · rw [if_neg h]
    by_cases h2 : j < t
    · rw [if_pos h2, if_pos (by omega)]
    · rw [if_neg h2, if_neg (by omega)]
