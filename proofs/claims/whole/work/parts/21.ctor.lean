/-! CONSTRUCTORS: the layout G and the first store μ are fixed ahead; S tells which cells are finished; the unfinished ones lie in X. New cells lie at the heap's end: all places from z on are taken, and the heap is no greater than the cells made. -/
def xGs (G : xG) (S : Nat → Bool) : xG := (fun a => if S a = true then G.1 a else 0, G.2)
theorem xGs_on {D : va_G} {ca : Nat → ClassId} {G : xG} {S : Nat → Bool} {μ : xM} {a : Nat} {H : Heap} (h : S a = true) : xAt D ca (xGs G S) μ a H ↔ xAt D ca G μ a H := by
  have e1 : (xGs G S).1 a = G.1 a := if_pos h
  have e2 : (xGs G S).2 = G.2 := rfl
  have e3 : ∀ ci, xV (xGs G S) μ ci a = xV G μ ci a := fun ci => rfl
  unfold xAt
  rw [e1]
  exact Iff.rfl
def xOcc (z : Nat) (G : xG) (X : va_W) (N : Nat) : Prop := ∀ a, z ≤ a → a < N → G.1 a ≠ 0 ∨ ∃ (k : Nat) (q : Nat × va_E), X[k]? = some q ∧ q.1 = a
def xAO (U : State) : Prop := va_AO RX0 U ∧ va_AO RX4 U ∧ va_AO RX5 U
theorem xAO.moved {u U : State} (hvm : u.vm.Alike U.vm) (h : xAO u) : xAO U := ⟨h.1.moved hvm, h.2.1.moved hvm, h.2.2.moved hvm⟩
theorem xW_sz {p : Program} {l : Launch} {e : Env} {R : Room} {s : State} {m : MethodId} {args : Array Value} {below : List Frame} {meth : Method} {c : Code} {H : Heap} {locs : List Loc} {cells slots : Nat} {Q : State → Prop} {g : JFrame} (h : H.size ≤ s.heap.size + cells → W p l e R s m args below meth c H locs cells slots Q g) : W p l e R s m args below meth c H locs cells slots Q g := by
  intro T hT X
  exact h (by rw [← hT]; exact X.heapSize) T hT X
/-- an unfinished cell is finished -/
theorem xAbs {D : va_G} {ca : Nat → ClassId} {z : Nat} {G : xG} {S S1 : Nat → Bool} {X : va_W} {μ : xM} {H : Heap} {a : Nat} {v : va_E} (hR : xRep D ca (xGs G S) ((a, v) :: X) μ H) (hF : xFix z (xGs G S) ((a, v) :: X)) (hD : va_D (fun q => z ≤ q) ((a, v) :: X)) (h1 : S1 a = true) (h2 : ∀ b, b ≠ a → S1 b = S b) (he : va_at D vwCl (a, v) H → xAt D ca G μ a H) : xRep D ca (xGs G S1) X μ H ∧ xFix z (xGs G S1) X ∧ va_D (fun q => z ≤ q) X := by
  have hx : ∀ (k : Nat) (q : Nat × va_E), X[k]? = some q → q.1 ≠ a := fun k q hk e => by
    have := hD.1 (k + 1) 0 q (a, v) (by rw [List.getElem?_cons_succ]; exact hk) rfl e
    omega
  refine ⟨⟨fun b => ?_, fun k q hk => hR.2 (k + 1) q (by rw [List.getElem?_cons_succ]; exact hk)⟩, ⟨fun b hb => ?_, fun k q hk => ?_⟩, ⟨fun i j p q hp hq e => ?_, fun k q hk => hD.2 (k + 1) q (by rw [List.getElem?_cons_succ]; exact hk)⟩⟩
  · by_cases hb : b = a
    · subst hb
      exact (xGs_on h1).mpr (he (hR.2 0 _ rfl))
    · by_cases hs : S b = true
      · exact (xGs_on (by rw [h2 b hb]; exact hs)).mpr ((xGs_on hs).mp (hR.1 b))
      · unfold xAt
        rw [if_pos (show (xGs G S1).1 b = 0 from if_neg (by rw [h2 b hb]; exact hs))]
        trivial
  · by_cases hb2 : b = a
    · subst hb2
      exact hD.2 0 _ rfl
    · refine hF.1 b (fun e0 => hb ?_)
      have e1 : (xGs G S1).1 b = (xGs G S).1 b := by
        show (if S1 b = true then G.1 b else 0) = (if S b = true then G.1 b else 0)
        rw [h2 b hb2]
      rw [e1]
      exact e0
  · have h3 := hF.2 (k + 1) q (by rw [List.getElem?_cons_succ]; exact hk)
    refine ⟨?_, h3.2⟩
    have e1 : (xGs G S1).1 q.1 = (xGs G S).1 q.1 := by
      show (if S1 q.1 = true then G.1 q.1 else 0) = (if S q.1 = true then G.1 q.1 else 0)
      rw [h2 _ (hx k q hk)]
    rw [e1]
    exact h3.1
  · have := hD.1 (i + 1) (j + 1) p q (by rw [List.getElem?_cons_succ]; exact hp) (by rw [List.getElem?_cons_succ]; exact hq) e
    omega
theorem xOcc.abs {z : Nat} {G : xG} {S S1 : Nat → Bool} {X : va_W} {a N : Nat} {v : va_E} (h : xOcc z (xGs G S) ((a, v) :: X) N) (h1 : S1 a = true) (hG : G.1 a ≠ 0) (h2 : ∀ b, b ≠ a → S1 b = S b) : xOcc z (xGs G S1) X N := by
  intro b hb hN
  by_cases hba : b = a
  · subst hba
    exact Or.inl (by show (if S1 b = true then G.1 b else 0) ≠ 0; rw [if_pos h1]; exact hG)
  · rcases h b hb hN with h3 | ⟨k, q, hk, e⟩
    · refine Or.inl ?_
      show (if S1 b = true then G.1 b else 0) ≠ 0
      rw [h2 b hba]
      exact h3
    · cases k with
      | zero => cases hk; exact absurd e.symm hba
      | succ k => exact Or.inr ⟨k, q, by rw [List.getElem?_cons_succ] at hk; exact hk, e⟩
theorem xOcc.push {z : Nat} {G : xG} {X : va_W} {N : Nat} {v : va_E} (h : xOcc z G X N) : xOcc z G ((N, v) :: X) (N + 1) := by
  intro b hb hN
  by_cases hbN : b = N
  · exact Or.inr ⟨0, (N, v), rfl, hbN.symm⟩
  · rcases h b hb (by omega) with h3 | ⟨k, q, hk, e⟩
    · exact Or.inl h3
    · exact Or.inr ⟨k + 1, q, by rw [List.getElem?_cons_succ]; exact hk, e⟩
theorem xOcc.set {z : Nat} {G : xG} {X : va_W} {N q0 a : Nat} {v v1 : va_E} (h : xOcc z G X N) (ha : X[q0]? = some (a, v)) : xOcc z G (X.set q0 (a, v1)) N := by
  intro b hb hN
  rcases h b hb hN with h3 | ⟨k, q, hk, e⟩
  · exact Or.inl h3
  · by_cases hkq : k = q0
    · subst hkq
      rw [ha] at hk
      cases hk
      exact Or.inr ⟨k, (a, v1), List.getElem?_set_self (List.getElem?_eq_some_iff.mp ha).1, e⟩
    · exact Or.inr ⟨k, q, by rw [List.getElem?_set_ne (Ne.symm hkq)]; exact hk, e⟩
theorem xPc {X L : va_W} {nb : Nat × va_E} : ((nb :: X) ++ L).Perm ((X ++ L) ++ [nb]) := by
  show ([nb] ++ (X ++ L)).Perm ((X ++ L) ++ [nb])
  exact List.perm_append_comm
theorem xBc {D : va_G} {ca : Nat → ClassId} {z : Nat} {G : xG} {X L : va_W} {μ : xM} {H1 : Heap} {nb : Nat × va_E} (back : ∀ (X1 : va_W) (H1 : Heap), va_P D vwCl (X1 ++ L) H1 → va_D (fun q => z ≤ q) (X1 ++ L) → xRep D ca G X1 μ H1 ∧ xFix z G X1 ∧ va_D (fun q => z ≤ q) X1) (hP : va_P D vwCl ((X ++ L) ++ [nb]) H1) (hD : va_D (fun q => z ≤ q) ((X ++ L) ++ [nb])) : xRep D ca G (nb :: X) μ H1 ∧ xFix z G (nb :: X) ∧ va_D (fun q => z ≤ q) (nb :: X) :=
  back (nb :: X) H1 (xP_mem hP (fun q hq => xPc.mem_iff.mp hq)) (xD_nd.mpr ⟨((xPc.map _).nodup_iff).mpr (xD_nd.mp hD).1, fun q hq => (xD_nd.mp hD).2 q (xPc.mem_iff.mp hq)⟩)
/-- the new cell's place -/
theorem xNewAt {D : va_G} {ca : Nat → ClassId} {z N : Nat} {G : xG} {X : va_W} {μ : xM} {H1 : Heap} {q : Nat} {v : va_E} (hO : xOcc z G X N) (hR : xRep D ca G ((q, v) :: X) μ H1) (hF : xFix z G ((q, v) :: X)) (hD : va_D (fun q => z ≤ q) ((q, v) :: X)) (hs : H1.size ≤ N + 1) : q = N := by
  have h1 : q < H1.size := (hR.2 0 _ rfl).lt
  have h2 := (hF.2 0 _ rfl).1
  have h3 : z ≤ q := hD.2 0 _ rfl
  rcases Nat.lt_or_ge q N with h4 | h4
  · exfalso
    rcases hO q h3 h4 with h5 | ⟨k, w, hk, e⟩
    · exact h5 h2
    · have := hD.1 (k + 1) 0 w (q, v) (by rw [List.getElem?_cons_succ]; exact hk) rfl e
      omega
  · omega
section XNR
variable {p : Program} {l : Launch} {e : Env} {R : Room} {s : State} {m : MethodId} {args : Array Value} {below : List Frame} {meth : Method} {c : Code} {H : Heap} {locs : List Loc} {cells slots N0 : Nat} {Q : State → Prop}
variable {cc : ByteArray} {pc : Nat} {ls : Array Slot} {rest : List Value} {D : va_G} {ca : Nat → ClassId} {z a : Nat} {G : xG} {X : va_W} {μ : xM} {index : Nat} {own C ref : String} {T : u_T} {N ci : Nat}
theorem xn_new (hx : p.tables.exec = Jvm.exec) (hb : c.code = cc) (hts : ∀ w ∈ xAll, w.before args s = true) (hin : ∀ w ∈ u_ws C T N, w ∈ xAll) (ty : Nat → FieldType) (hty : ∀ k, k < N → parseFieldDescriptor (T k).2.2.1 = some (ty k)) (hown : s.vm.findClass own = some m.cls) (hcl : .classLink own index C ∈ xAll) (hinst : .instantiable C N ∈ xAll) (hini : .initialized C ∈ xAll) (hK : va_K D vwCl (xT ca) s) (hR : xRep D ca G X μ H) (hF : xFix z G X) (hXD : va_D (fun q => z ≤ q) X) (hS : va_S (fun q => z ≤ q) s.heap H locs) (hsz : s.heap.size = N0) {N1 : Nat} (hO : xOcc z G X N1) (hN1 : N0 + cells = N1) (hA : z ≤ N0) (hc : vwCl[ci]? = some (C, T, N)) (fs : List Value) (hfs : ∀ j, j < N → defaultValue (ty j) = vp_V fs j) (hcells : cells + 1 ≤ R.cells) (hslots : slots + N ≤ R.slots) (hdg : decode cc pc = .ok (.new index, 3))
    (kk : ∀ (H1 : Heap), xRep D ca G ((N1, .inr (ci, fs)) :: X) μ H1 → xFix z G ((N1, .inr (ci, fs)) :: X) → va_D (fun q => z ≤ q) ((N1, .inr (ci, fs)) :: X) → va_S (fun q => z ≤ q) s.heap H1 locs → xOcc z G ((N1, .inr (ci, fs)) :: X) (N1 + 1) → W p l e R s m args below meth c H1 locs (cells + 1) (slots + N) Q (F0 m (pc + 3) ls (.ref N1 :: rest))) : W p l e R s m args below meth c H locs cells slots Q (F0 m pc ls rest) := by
  obtain ⟨L, hP, hD, back⟩ := xBr hR hF hXD
  refine va_new hx hb hts hin ty hty hown (hts _ hcl) (hts _ hinst) (hts _ hini) hK hP hD hS (fun q hq => Nat.le_trans hA (by omega)) hc hfs hcells hslots hdg (fun q H1 hP1 hD1 hS1 => ?_)
  obtain ⟨b1, b2, b3⟩ := xBc back hP1 hD1
  refine xW_sz (fun hz => ?_)
  have hq : q = N1 := xNewAt hO b1 b2 b3 (by omega)
  subst hq
  exact kk H1 b1 b2 b3 hS1 hO.push
theorem xn_get (hx : p.tables.exec = Jvm.exec) (hb : c.code = cc) (hts : ∀ w ∈ xAll, w.before args s = true) (hin : ∀ w ∈ u_ws C T N, w ∈ xAll) (hown : s.vm.findClass own = some m.cls) (hK : va_K D vwCl (xT ca) s) (hR : xRep D ca G X μ H) (q0 : Nat) {fs : List Value} (he : X[q0]? = some (a, .inr (ci, fs))) (hc : vwCl[ci]? = some (C, T, N)) (k : Nat) (hk : k < N) (hlink : .fieldLink own index ref (T k).2.1 (T k).2.2.1 ∈ xAll) (hsame : ∀ x, s.fieldFound? (T k).1 (T k).2.1 (T k).2.2.1 = some x → s.fieldFound? ref (T k).2.1 (T k).2.2.1 = some x) {v : Value} (hv : fs[k]? = some v) (hdg : decode cc pc = .ok (.getfield index, 3))
    (kk : W p l e R s m args below meth c H locs cells slots Q (F0 m (pc + 3) ls (v :: rest))) : W p l e R s m args below meth c H locs cells slots Q (F0 m pc ls (.ref a :: rest)) :=
  va_get hx hb hts hin hown hK hR.2 q0 he hc k hk (hts _ hlink) hsame hv hdg kk
theorem xn_put (hx : p.tables.exec = Jvm.exec) (hb : c.code = cc) (hts : ∀ w ∈ xAll, w.before args s = true) (hin : ∀ w ∈ u_ws C T N, w ∈ xAll) (ty0 : Nat → FieldType) (hty : ∀ k, k < N → parseFieldDescriptor (T k).2.2.1 = some (ty0 k)) (hnm : ∀ a, a < N → ∀ b, b < N → a ≠ b → (T a).2.1 ≠ (T b).2.1) (hown : s.vm.findClass own = some m.cls) (hK : va_K D vwCl (xT ca) s) (hR : xRep D ca G X μ H) (hF : xFix z G X) (hXD : va_D (fun q => z ≤ q) X) (hS : va_S (fun q => z ≤ q) s.heap H locs) (hO : xOcc z G X N0) (q0 : Nat) {fs : List Value} (he : X[q0]? = some (a, .inr (ci, fs))) (hc : vwCl[ci]? = some (C, T, N)) (k : Nat) (hk : k < N) (hlink : .fieldLink own index ref (T k).2.1 (T k).2.2.1 ∈ xAll) (hsame : ∀ x, s.fieldFound? (T k).1 (T k).2.1 (T k).2.2.1 = some x → s.fieldFound? ref (T k).2.1 (T k).2.2.1 = some x) (hfin : (T k).2.2.2 = false) {ty : FieldType} {v : Value} (hd : parseFieldDescriptor (T k).2.2.1 = some ty) (hn : narrow ty v = v) (hfit : fits ty v = true) (hl : k < fs.length)
    (hdg : decode cc pc = .ok (.putfield index, 3)) (X1 : va_W) (hX1 : X.set q0 (a, .inr (ci, fs.set k v)) = X1) (kk : ∀ (H1 : Heap) (locs1 : List Loc), xRep D ca G X1 μ H1 → xFix z G X1 → va_D (fun q => z ≤ q) X1 → va_S (fun q => z ≤ q) s.heap H1 locs1 → xOcc z G X1 N0 → W p l e R s m args below meth c H1 locs1 cells slots Q (F0 m (pc + 3) ls rest)) : W p l e R s m args below meth c H locs cells slots Q (F0 m pc ls (v :: .ref a :: rest)) := by
  subst hX1
  have hlt := (List.getElem?_eq_some_iff.mp he).1
  obtain ⟨L, hP, hD, back⟩ := xBr hR hF hXD
  refine va_put hx hb hts hin ty0 hty hnm hown hK hP hD hS q0 (fs := fs) (by rw [List.getElem?_append_left hlt]; exact he) hc k hk (hts _ hlink) hsame hfin hd hn hfit hl hdg (fun H1 locs1 hP1 hD1 hS1 => ?_)
  rw [List.set_append_left _ _ hlt] at hP1 hD1
  obtain ⟨b1, b2, b3⟩ := back _ H1 hP1 hD1
  exact kk H1 locs1 b1 b2 b3 hS1 (hO.set he)
theorem xn_putF (hx : p.tables.exec = Jvm.exec) (hb : c.code = cc) (hts : ∀ w ∈ xAll, w.before args s = true) (hin : ∀ w ∈ u_ws C T N, w ∈ xAll) (ty0 : Nat → FieldType) (hty : ∀ k, k < N → parseFieldDescriptor (T k).2.2.1 = some (ty0 k)) (hnm : ∀ a, a < N → ∀ b, b < N → a ≠ b → (T a).2.1 ≠ (T b).2.1) (hown : s.vm.findClass own = some m.cls) (hK : va_K D vwCl (xT ca) s) (hR : xRep D ca G X μ H) (hF : xFix z G X) (hXD : va_D (fun q => z ≤ q) X) (hS : va_S (fun q => z ≤ q) s.heap H locs) (hO : xOcc z G X N0) (q0 : Nat) {fs : List Value} (he : X[q0]? = some (a, .inr (ci, fs))) (hc : vwCl[ci]? = some (C, T, N)) (k : Nat) (hk : k < N) (hlink : .fieldLink own index ref (T k).2.1 (T k).2.2.1 ∈ xAll) (hsame : ∀ x, s.fieldFound? (T k).1 (T k).2.1 (T k).2.2.1 = some x → s.fieldFound? ref (T k).2.1 (T k).2.2.1 = some x) (hfin : (T k).2.2.2 = true) (hin2 : meth.name = "<init>") (hdecl : (T k).1 = own) {ty : FieldType} {v : Value} (hd : parseFieldDescriptor (T k).2.2.1 = some ty) (hn : narrow ty v = v) (hfit : fits ty v = true) (hl : k < fs.length)
    (hdg : decode cc pc = .ok (.putfield index, 3)) (X1 : va_W) (hX1 : X.set q0 (a, .inr (ci, fs.set k v)) = X1) (kk : ∀ (H1 : Heap) (locs1 : List Loc), xRep D ca G X1 μ H1 → xFix z G X1 → va_D (fun q => z ≤ q) X1 → va_S (fun q => z ≤ q) s.heap H1 locs1 → xOcc z G X1 N0 → W p l e R s m args below meth c H1 locs1 cells slots Q (F0 m (pc + 3) ls rest)) : W p l e R s m args below meth c H locs cells slots Q (F0 m pc ls (v :: .ref a :: rest)) := by
  subst hX1
  have hlt := (List.getElem?_eq_some_iff.mp he).1
  obtain ⟨L, hP, hD, back⟩ := xBr hR hF hXD
  refine va_putF hx hb hts hin ty0 hty hnm hown hK hP hD hS q0 (fs := fs) (by rw [List.getElem?_append_left hlt]; exact he) hc k hk (hts _ hlink) hsame hfin hin2 hdecl hd hn hfit hl hdg (fun H1 locs1 hP1 hD1 hS1 => ?_)
  rw [List.set_append_left _ _ hlt] at hP1 hD1
  obtain ⟨b1, b2, b3⟩ := back _ H1 hP1 hD1
  exact kk H1 locs1 b1 b2 b3 hS1 (hO.set he)
/-- a new array of numbers; t0: its kind among the tables' -/
theorem xn_newa (t0 : Nat) {atype : ArrayType} {ty : FieldType} (hx : p.tables.exec = Jvm.exec) (hb : c.code = cc) (harr : (Cond.arrayClass ty) ∈ xAll) (hty : newarray.typeOf atype = ty) (ht0 : (xT ca)[t0]? = some (ca t0, ty)) (hra : ∀ (c1 c2 : ClassId), va_RA s c1 ty → va_RA s c2 ty → c1 = c2) (hts : ∀ w ∈ xAll, w.before args s = true) (hK : va_K D vwCl (xT ca) s) (hR : xRep D ca G X μ H) (hF : xFix z G X) (hXD : va_D (fun q => z ≤ q) X) (hS : va_S (fun q => z ≤ q) s.heap H locs) (hsz : s.heap.size = N0) {N1 : Nat} (hO : xOcc z G X N1) (hN1 : N0 + cells = N1) (hA : z ≤ N0) {n : Int32} {N' : Nat} {a0 : vp_A} (ha : ∀ cA : ClassId, vp_cell cA a0 = arrV cA N' (fun _ => defaultValue ty)) (hn : ¬ n < 0) (hN : n.toNatClampNeg = N') (hbytes : N' ≤ 65536) (hcb : componentBytes ty ≤ 8) (hcells : cells + 1 ≤ R.cells) (hslots : slots + N' ≤ R.slots) (hdg : decode cc pc = .ok (.newarray atype, 2))
    (kk : ∀ (H1 : Heap), xRep D ca G ((N1, .inl (ca t0, a0)) :: X) μ H1 → xFix z G ((N1, .inl (ca t0, a0)) :: X) → va_D (fun q => z ≤ q) ((N1, .inl (ca t0, a0)) :: X) → va_S (fun q => z ≤ q) s.heap H1 locs → xOcc z G ((N1, .inl (ca t0, a0)) :: X) (N1 + 1) → W p l e R s m args below meth c H1 locs (cells + 1) (slots + N') Q (F0 m (pc + 2) ls (.ref N1 :: rest))) : W p l e R s m args below meth c H locs cells slots Q (F0 m pc ls (.int n :: rest)) := by
  obtain ⟨L, hP, hD, back⟩ := xBr hR hF hXD
  subst hty
  refine va_newa hx hb (hts _ harr) rfl hK hP hD hS (fun q hq => Nat.le_trans hA (by omega)) (a0 := a0) ha hn hN (Nat.le_trans (Nat.mul_le_mul hbytes hcb) (by decide)) hcells hslots hdg (fun q cA H1 hK1 hP1 hD1 hS1 => ?_)
  have e3 : cA = ca t0 := hra _ _ (hK1.2 8 (cA, _) rfl).2 (hK.2 t0 _ ht0).2
  subst e3
  obtain ⟨b1, b2, b3⟩ := xBc back hP1 hD1
  refine xW_sz (fun hz => ?_)
  have hq : q = N1 := xNewAt hO b1 b2 b3 (by omega)
  subst hq
  exact kk H1 b1 b2 b3 hS1 hO.push
theorem xn_anew (t0 : Nat) (hx : p.tables.exec = Jvm.exec) (hb : c.code = cc) (hown : s.vm.findClass own = some m.cls) (hcl : .classLink own index C ∈ xAll) (hover : va_AO C s) (ht0 : (xT ca)[t0]? = some (ca t0, .object C)) (hts : ∀ w ∈ xAll, w.before args s = true) (hK : va_K D vwCl (xT ca) s) (hR : xRep D ca G X μ H) (hF : xFix z G X) (hXD : va_D (fun q => z ≤ q) X) (hS : va_S (fun q => z ≤ q) s.heap H locs) (hsz : s.heap.size = N0) {N1 : Nat} (hO : xOcc z G X N1) (hN1 : N0 + cells = N1) (hA : z ≤ N0) {n : Int32} {N' : Nat} (hn : ¬ n < 0) (hN : n.toNatClampNeg = N') (hbytes : N' * 4 ≤ 536870912) (hcells : cells + 1 ≤ R.cells) (hslots : slots + N' ≤ R.slots) (hdg : decode cc pc = .ok (.anewarray index, 3))
    (kk : ∀ (H1 : Heap), xRep D ca G ((N1, .inl (ca t0, N', .inr (.inr (.inr (.inr (fun _ => none)))))) :: X) μ H1 → xFix z G ((N1, .inl (ca t0, N', .inr (.inr (.inr (.inr (fun _ => none)))))) :: X) → va_D (fun q => z ≤ q) ((N1, .inl (ca t0, N', .inr (.inr (.inr (.inr (fun _ => none)))))) :: X) → va_S (fun q => z ≤ q) s.heap H1 locs → xOcc z G ((N1, .inl (ca t0, N', .inr (.inr (.inr (.inr (fun _ => none)))))) :: X) (N1 + 1) → W p l e R s m args below meth c H1 locs (cells + 1) (slots + N') Q (F0 m (pc + 3) ls (.ref N1 :: rest))) : W p l e R s m args below meth c H locs cells slots Q (F0 m pc ls (.int n :: rest)) := by
  obtain ⟨L, hP, hD, back⟩ := xBr hR hF hXD
  refine va_newq hx hb hown (hts _ hcl) hover hK hP hD hS (fun q hq => Nat.le_trans hA (by omega)) hn hN hbytes hcells hslots hdg (fun q cA H1 hK1 hP1 hD1 hS1 => ?_)
  have e3 : cA = ca t0 := by
    obtain ⟨-, -, -, -, -, h1⟩ := (hK1.2 8 (cA, .object C) rfl).2
    obtain ⟨-, -, -, -, -, h2⟩ := (hK.2 t0 _ ht0).2
    exact Option.some.inj (h1.symm.trans h2)
  subst e3
  obtain ⟨b1, b2, b3⟩ := xBc back hP1 hD1
  refine xW_sz (fun hz => ?_)
  have hq : q = N1 := xNewAt hO b1 b2 b3 (by omega)
  subst hq
  exact kk H1 b1 b2 b3 hS1 hO.push
/-- a row of references gets its object, the one at X's head -/
theorem xn_aast (q0 t0 : Nat) (hx : p.tables.exec = Jvm.exec) (hb : c.code = cc) (hK : va_K D vwCl (xT ca) s) (hR : xRep D ca G X μ H) (hF : xFix z G X) (hXD : va_D (fun q => z ≤ q) X) (hS : va_S (fun q => z ≤ q) s.heap H locs) (hO : xOcc z G X N0) {n v : Nat} {vs : List Value} {f : Nat → Option Nat} {r : vw_C} (ha : X[q0]? = some (a, .inl (ca t0, n, .inr (.inr (.inr (.inr f)))))) (ht : (xT ca)[t0]? = some (ca t0, .object r.1)) (qk : Nat) (hv : X[qk]? = some (v, .inr (ci, vs))) (hc : vwCl[ci]? = some r) {i : Int32} {j : Nat} (hj : i.toNatClampNeg = j) (hin : vp_in i n) (hdg : decode cc pc = .ok (.aastore, 1)) (X1 : va_W) (hX1 : X.set q0 (a, .inl (ca t0, n, .inr (.inr (.inr (.inr (va_up f j (some v))))))) = X1)
    (kk : ∀ (H1 : Heap) (locs1 : List Loc), xRep D ca G X1 μ H1 → xFix z G X1 → va_D (fun q => z ≤ q) X1 → va_S (fun q => z ≤ q) s.heap H1 locs1 → xOcc z G X1 N0 → W p l e R s m args below meth c H1 locs1 cells slots Q (F0 m (pc + 1) ls rest)) : W p l e R s m args below meth c H locs cells slots Q (F0 m pc ls (.ref v :: .int i :: .ref a :: rest)) := by
  subst hX1
  subst hj
  have hlt := (List.getElem?_eq_some_iff.mp ha).1
  obtain ⟨L, hP, hD, back⟩ := xBr hR hF hXD
  refine va_astq hx hb hK hP hD hS q0 t0 qk ci (f := f) (n := n) (by rw [List.getElem?_append_left hlt]; exact ha) ht (by rw [List.getElem?_append_left (List.getElem?_eq_some_iff.mp hv).1]; exact hv) hc hin hdg (fun H1 locs1 hP1 hD1 hS1 => ?_)
  rw [List.set_append_left _ _ hlt] at hP1 hD1
  obtain ⟨b1, b2, b3⟩ := back _ H1 hP1 hD1
  exact kk H1 locs1 b1 b2 b3 hS1 (hO.set ha)
end XNR
theorem xRA1 {s : State} : ∀ (c1 c2 : ClassId), va_RA s c1 .int → va_RA s c2 .int → c1 = c2 := fun _ _ h1 h2 => Option.some.inj (Eq.trans (Eq.symm h1) h2)
theorem xRA2 {s : State} : ∀ (c1 c2 : ClassId), va_RA s c1 .char → va_RA s c2 .char → c1 = c2 := fun _ _ h1 h2 => Option.some.inj (Eq.trans (Eq.symm h1) h2)
theorem xRA3 {s : State} : ∀ (c1 c2 : ClassId), va_RA s c1 .long → va_RA s c2 .long → c1 = c2 := fun _ _ h1 h2 => Option.some.inj (Eq.trans (Eq.symm h1) h2)
theorem xRA4 {s : State} : ∀ (c1 c2 : ClassId), va_RA s c1 .double → va_RA s c2 .double → c1 = c2 := fun _ _ h1 h2 => Option.some.inj (Eq.trans (Eq.symm h1) h2)
theorem xRA5 {s : State} : ∀ (c1 c2 : ClassId), va_RA s c1 .byte → va_RA s c2 .byte → c1 = c2 := fun _ _ h1 h2 => Option.some.inj (Eq.trans (Eq.symm h1) h2)
