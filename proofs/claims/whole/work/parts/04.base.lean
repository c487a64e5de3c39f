/-! THE FLAT STORE: every object that the two classes keep stands at a fixed address; its whole numbers are one function of address and place; references and kinds stay. -/
abbrev xM : Type := Nat → Nat → Int32
abbrev xG : Type := (Nat → Nat) × (Nat → Nat → Option Nat) × (Nat → Nat)
def xw (μ : xM) (a k : Nat) (v : Int32) : xM := fun b j => if b = a then (if j = k then v else μ b j) else μ b j
theorem xw_same (μ : xM) (a k : Nat) (v : Int32) : xw μ a k v a k = v := by simp [xw]
theorem xw_row {μ : xM} {a k b : Nat} {v : Int32} (h : b ≠ a) : xw μ a k v b = μ b := by funext j; simp [xw, h]
theorem xw_other {μ : xM} {a k b j : Nat} {v : Int32} (h : b ≠ a ∨ j ≠ k) : xw μ a k v b j = μ b j := by
  unfold xw
  by_cases h1 : b = a
  · rcases h with h | h
    · exact absurd h1 h
    · simp [h]
  · simp [h1]
def xref (ci k : Nat) : Bool := (ci == 4 && decide (k < 3)) || (ci == 6 && k == 0) || (ci == 7 && decide (k < 2)) || (ci == 11 && (decide (k < 10) && !(k == 3))) || (ci == 12 && (decide (k < 4) || k == 12 || k == 15 || k == 18))
def xV (G : xG) (μ : xM) (ci a k : Nat) : Value := if xref ci k = true then va_rf (G.2.1 a k) else .int (μ a k)
def xT (ca : Nat → ClassId) : List (ClassId × FieldType) := [(ca 0, .int), (ca 1, .char), (ca 2, .byte), (ca 3, .long), (ca 4, .object RX0), (ca 5, .object RX4), (ca 6, .object RX5), (ca 7, .double)]
/-- the cell at a, as its kind says: 1.. an object of vwCl's class, 101 int[], 102 char[], 103 byte[], 104 long[], 111.. arrays of references -/
def xAt (D : va_G) (ca : Nat → ClassId) (G : xG) (μ : xM) (a : Nat) (H : Heap) : Prop :=
  if G.1 a = 0 then True
  else if G.1 a < 100 then ∃ r : vw_C, vwCl[G.1 a - 1]? = some r ∧ t_OB a (D.1 (G.1 a - 1)) r.2.2 (D.2 (G.1 a - 1)) H (xV G μ (G.1 a - 1) a)
  else if G.1 a < 104 then H[a]? = some (vp_cell (ca (G.1 a - 101)) (G.2.2 a, .inl (μ a)))
  else if G.1 a = 104 then H[a]? = some (vp_cell (ca 3) (G.2.2 a, .inr (.inl (fun j => (μ a j).toInt64))))
  else H[a]? = some (vp_cell (ca (G.1 a - 107)) (G.2.2 a, .inr (.inr (.inr (.inr (G.2.1 a))))))
def xRep (D : va_G) (ca : Nat → ClassId) (G : xG) (X : va_W) (μ : xM) (H : Heap) : Prop := (∀ a, xAt D ca G μ a H) ∧ va_P D vwCl X H
/-- what is fixed: the store lies from z on, the further cells X lie apart from it -/
def xFix (z : Nat) (G : xG) (X : va_W) : Prop := (∀ a, G.1 a ≠ 0 → z ≤ a) ∧ ∀ (k : Nat) (q : Nat × va_E), X[k]? = some q → G.1 q.1 = 0 ∧ z ≤ q.1
theorem xAt_obj {D : va_G} {ca : Nat → ClassId} {G : xG} {μ : xM} {a ci : Nat} {H : Heap} {C : String} {T : u_T} {N : Nat} (hk : G.1 a = ci + 1) (hc : vwCl[ci]? = some (C, T, N)) : xAt D ca G μ a H ↔ t_OB a (D.1 ci) N (D.2 ci) H (xV G μ ci a) := by
  have hl : ci < 13 := (List.getElem?_eq_some_iff.mp hc).1
  unfold xAt
  rw [hk, if_neg (by omega), if_pos (by omega), Nat.add_sub_cancel, hc]
  constructor
  · rintro ⟨r, h1, h2⟩
    cases h1
    exact h2
  · intro h
    exact ⟨_, rfl, h⟩
theorem xAt_num {D : va_G} {ca : Nat → ClassId} {G : xG} {μ : xM} {a t : Nat} {H : Heap} (ht : t < 3) (hk : G.1 a = 101 + t) : xAt D ca G μ a H ↔ H[a]? = some (vp_cell (ca t) (G.2.2 a, .inl (μ a))) := by
  unfold xAt
  rw [hk, if_neg (by omega), if_neg (by omega), if_pos (by omega), show 101 + t - 101 = t by omega]
theorem xAt_long {D : va_G} {ca : Nat → ClassId} {G : xG} {μ : xM} {a : Nat} {H : Heap} (hk : G.1 a = 104) : xAt D ca G μ a H ↔ H[a]? = some (vp_cell (ca 3) (G.2.2 a, .inr (.inl (fun j => (μ a j).toInt64)))) := by
  unfold xAt
  rw [hk, if_neg (by omega), if_neg (by omega), if_neg (by omega), if_pos rfl]
theorem xAt_refs {D : va_G} {ca : Nat → ClassId} {G : xG} {μ : xM} {a t : Nat} {H : Heap} (ht : t < 3) (hk : G.1 a = 111 + t) : xAt D ca G μ a H ↔ H[a]? = some (vp_cell (ca (4 + t)) (G.2.2 a, .inr (.inr (.inr (.inr (G.2.1 a)))))) := by
  unfold xAt
  rw [hk, if_neg (by omega), if_neg (by omega), if_neg (by omega), if_neg (by omega), show 111 + t - 107 = 4 + t by omega]
theorem xAt.kept {D : va_G} {ca : Nat → ClassId} {G : xG} {μ μ1 : xM} {a : Nat} {H H1 : Heap} (h : xAt D ca G μ a H) (hH : G.1 a ≠ 0 → H1[a]? = H[a]?) (hμ : μ1 a = μ a) : xAt D ca G μ1 a H1 := by
  unfold xAt at h ⊢
  by_cases h0 : G.1 a = 0
  · rw [if_pos h0]; trivial
  · have hq := hH h0
    rw [if_neg h0] at h ⊢
    have hV : xV G μ1 (G.1 a - 1) a = xV G μ (G.1 a - 1) a := by funext k; simp [xV, hμ]
    rw [hV]
    by_cases h1 : G.1 a < 100
    · rw [if_pos h1] at h ⊢
      obtain ⟨r, e1, e2⟩ := h
      exact ⟨r, e1, e2.kept hq⟩
    · rw [if_neg h1] at h ⊢
      rw [hq, hμ]
      exact h
/-- behind a store at a: the rest stays -/
theorem xRep.put {D : va_G} {ca : Nat → ClassId} {z : Nat} {G : xG} {X : va_W} {μ : xM} {H H1 : Heap} {a k : Nat} {v : Int32} (h : xRep D ca G X μ H) (hF : xFix z G X) (hk : G.1 a ≠ 0) (hq : ∀ q : Nat, q ≠ a → H1[q]? = H[q]?) (ha : xAt D ca G (xw μ a k v) a H1) : xRep D ca G X (xw μ a k v) H1 := by
  refine ⟨fun b => ?_, h.2.kept (fun j q hj => hq _ (fun e => hk ?_))⟩
  · by_cases hb : b = a
    · rw [hb]; exact ha
    · exact (h.1 b).kept (fun _ => hq b hb) (xw_row hb)
  · have := (hF.2 j q hj).1
    rw [e] at this
    exact this
theorem xRep.frame {D : va_G} {ca : Nat → ClassId} {z : Nat} {G : xG} {X : va_W} {μ : xM} {H H1 : Heap} (h : xRep D ca G X μ H) (hF : xFix z G X) (hq : ∀ q : Nat, q < H.size → H1[q]? = H[q]?) : xRep D ca G X μ H1 := by
  refine ⟨fun b => ?_, h.2.kept (fun j q hj => hq _ (h.2 j q hj).lt)⟩
  refine (h.1 b).kept (fun hb => ?_) rfl
  have hb1 := h.1 b
  have hlt : b < H.size := by
    unfold xAt at hb1
    rw [if_neg hb] at hb1
    split at hb1
    · obtain ⟨r, -, cell, e, -⟩ := hb1
      exact (Array.getElem?_eq_some_iff.mp e).1
    · split at hb1
      · exact (Array.getElem?_eq_some_iff.mp hb1).1
      · split at hb1 <;> exact (Array.getElem?_eq_some_iff.mp hb1).1
  exact hq b hlt
theorem xOne {D : va_G} {cl : List vw_C} {q : Nat × va_E} {H : Heap} (h : va_at D cl q H) : va_P D cl [q] H := by
  intro k r hk
  cases k with
  | zero => cases hk; exact h
  | succ k => simp at hk
section XROWS
variable {p : Program} {l : Launch} {e : Env} {R : Room} {s : State} {m : MethodId} {args : Array Value} {below : List Frame} {meth : Method} {c : Code} {H : Heap} {locs : List Loc} {cells slots : Nat} {Q : State → Prop}
variable {cc : ByteArray} {pc : Nat} {ls : Array Slot} {rest : List Value} {D : va_G} {ca : Nat → ClassId} {z a : Nat} {G : xG} {X : va_W} {μ : xM} {H0 : Heap}
theorem xr_ob (hexec : p.tables.exec = Jvm.exec) (hb : c.code = cc) {own ref C : String} {T : u_T} {N ci index : Nat} {Ts : List Cond} {V : Nat → Value} (hts : ∀ w ∈ Ts, w.before args s = true) (hin : ∀ w ∈ u_ws C T N, w ∈ Ts) (hown : s.vm.findClass own = some m.cls) (hK : va_K D vwCl (xT ca) s) (hO : t_OB a (D.1 ci) N (D.2 ci) H V) (hc : vwCl[ci]? = some (C, T, N)) (k : Nat) (hk : k < N) (hlink : (Cond.fieldLink own index ref (T k).2.1 (T k).2.2.1).before args s = true) (hsame : ∀ x, s.fieldFound? (T k).1 (T k).2.1 (T k).2.2.1 = some x → s.fieldFound? ref (T k).2.1 (T k).2.2.1 = some x) (hdg : decode cc pc = .ok (.getfield index, 3))
    (kk : W p l e R s m args below meth c H locs cells slots Q (F0 m (pc + 3) ls (V k :: rest))) : W p l e R s m args below meth c H locs cells slots Q (F0 m pc ls (.ref a :: rest)) := by
  obtain ⟨cell, q1, q2, q3, q4⟩ := hO
  obtain ⟨hS, hfc, kC, hkC, hkind⟩ := hK.1 ci _ hc
  obtain ⟨cf, kf, fi, f, hi, hsl⟩ := hS k hk
  refine W.getf hexec hb hown hlink (hsame _ hi) (u_facts hfc hkC (u_lays hts hin hk) hi).1 q1 (by rw [q3]; exact fun h => by cases h) (v := V k) ?_ rfl rfl hdg kk
  rw [hsl, q4 k hk]
/-- getfield of a whole number -/
theorem xr_getI (hexec : p.tables.exec = Jvm.exec) (hb : c.code = cc) {own ref C : String} {T : u_T} {N ci index : Nat} {Ts : List Cond} (hts : ∀ w ∈ Ts, w.before args s = true) (hin : ∀ w ∈ u_ws C T N, w ∈ Ts) (hown : s.vm.findClass own = some m.cls) (hK : va_K D vwCl (xT ca) s) (hR : xRep D ca G X μ H) (hc : vwCl[ci]? = some (C, T, N)) (hk0 : G.1 a = ci + 1) (k : Nat) (hk : k < N) (hnr : xref ci k = false) (hlink : (Cond.fieldLink own index ref (T k).2.1 (T k).2.2.1).before args s = true) (hsame : ∀ x, s.fieldFound? (T k).1 (T k).2.1 (T k).2.2.1 = some x → s.fieldFound? ref (T k).2.1 (T k).2.2.1 = some x) (hdg : decode cc pc = .ok (.getfield index, 3))
    (kk : W p l e R s m args below meth c H locs cells slots Q (F0 m (pc + 3) ls (.int (μ a k) :: rest))) : W p l e R s m args below meth c H locs cells slots Q (F0 m pc ls (.ref a :: rest)) := by
  refine xr_ob hexec hb hts hin hown hK ((xAt_obj hk0 hc).mp (hR.1 a)) hc k hk hlink hsame hdg ?_
  rw [show xV G μ ci a k = .int (μ a k) by unfold xV; rw [hnr]; exact if_neg (by decide)]
  exact kk
/-- getfield of a reference -/
theorem xr_getR (hexec : p.tables.exec = Jvm.exec) (hb : c.code = cc) {own ref C : String} {T : u_T} {N ci index b : Nat} {Ts : List Cond} (hts : ∀ w ∈ Ts, w.before args s = true) (hin : ∀ w ∈ u_ws C T N, w ∈ Ts) (hown : s.vm.findClass own = some m.cls) (hK : va_K D vwCl (xT ca) s) (hR : xRep D ca G X μ H) (hc : vwCl[ci]? = some (C, T, N)) (hk0 : G.1 a = ci + 1) (k : Nat) (hk : k < N) (hnr : xref ci k = true) (hb2 : G.2.1 a k = some b) (hlink : (Cond.fieldLink own index ref (T k).2.1 (T k).2.2.1).before args s = true) (hsame : ∀ x, s.fieldFound? (T k).1 (T k).2.1 (T k).2.2.1 = some x → s.fieldFound? ref (T k).2.1 (T k).2.2.1 = some x) (hdg : decode cc pc = .ok (.getfield index, 3))
    (kk : W p l e R s m args below meth c H locs cells slots Q (F0 m (pc + 3) ls (.ref b :: rest))) : W p l e R s m args below meth c H locs cells slots Q (F0 m pc ls (.ref a :: rest)) := by
  refine xr_ob hexec hb hts hin hown hK ((xAt_obj hk0 hc).mp (hR.1 a)) hc k hk hlink hsame hdg ?_
  rw [show xV G μ ci a k = .ref b by unfold xV; rw [hnr, if_pos rfl, hb2]; rfl]
  exact kk
/-- putfield of a whole number -/
theorem xr_putI (hexec : p.tables.exec = Jvm.exec) (hb : c.code = cc) {own ref C : String} {T : u_T} {N ci index : Nat} {Ts : List Cond} (hts : ∀ w ∈ Ts, w.before args s = true) (hin : ∀ w ∈ u_ws C T N, w ∈ Ts) (ty0 : Nat → FieldType) (hty : ∀ k, k < N → parseFieldDescriptor (T k).2.2.1 = some (ty0 k)) (hnm : ∀ a, a < N → ∀ b, b < N → a ≠ b → (T a).2.1 ≠ (T b).2.1) (hown : s.vm.findClass own = some m.cls) (hK : va_K D vwCl (xT ca) s) (hR : xRep D ca G X μ H) (hFx : xFix z G X) (hS0 : va_S (fun q => z ≤ q) H0 H locs) (hc : vwCl[ci]? = some (C, T, N)) (hk0 : G.1 a = ci + 1) (k : Nat) (hk : k < N) (hnr : xref ci k = false) (hlink : (Cond.fieldLink own index ref (T k).2.1 (T k).2.2.1).before args s = true) (hsame : ∀ x, s.fieldFound? (T k).1 (T k).2.1 (T k).2.2.1 = some x → s.fieldFound? ref (T k).2.1 (T k).2.2.1 = some x) (hfin : (T k).2.2.2 = false) {ty : FieldType} {v : Int32} (hd : parseFieldDescriptor (T k).2.2.1 = some ty) (hn : narrow ty (.int v) = .int v) (hfit : fits ty (.int v) = true)
    (hdg : decode cc pc = .ok (.putfield index, 3)) (kk : ∀ (H1 : Heap) (locs1 : List Loc), xRep D ca G X (xw μ a k v) H1 → va_S (fun q => z ≤ q) H0 H1 locs1 → W p l e R s m args below meth c H1 locs1 cells slots Q (F0 m (pc + 3) ls rest)) : W p l e R s m args below meth c H locs cells slots Q (F0 m pc ls (.int v :: .ref a :: rest)) := by
  have hap := va_apart (own := own) hts hin ty0 hty hnm hK hc
  obtain ⟨cell, q1, q2, q3, q4⟩ := (xAt_obj hk0 hc).mp (hR.1 a)
  obtain ⟨hS, hfc, kC, hkC, hkind⟩ := hK.1 ci _ hc
  obtain ⟨cf, kf, fi, f, hi, hsl⟩ := hS k hk
  have hlay := hts _ (hin _ (u_in_lay hk))
  unfold u_lay at hlay
  rw [if_neg (by rw [hfin]; decide)] at hlay
  have hst := (u_facts hfc hkC (u_lays hts hin hk) hi).1
  have h6 := u_store hfc hkC hkind hlay hi hd hn hfit
  refine W.putK hexec hb (f := f) ⟨hown, hlink, ⟨_, _, _, hsame _ hi⟩, hst⟩ (by rw [q2]; exact h6) q1 q3 (by rw [hsl]; exact k2_hasslot (q4 k hk)) rfl rfl hdg fun H' e1 e2 e3 => ?_
  rw [hsl] at e1 ⊢
  have hne : G.1 a ≠ 0 := by omega
  refine kk H' _ (hR.put hFx hne e3 ((xAt_obj hk0 hc).mpr (t_OB.to (V := updV (xV G μ ci a) k (.int v)) ⟨_, e1, q2, q3, t_set q4 hap hk _⟩ (fun j _ => ?_)))) (hS0.put e2 e3 (hFx.1 a hne))
  unfold updV xV
  by_cases hj : j = k
  · subst hj
    rw [if_pos rfl, hnr, if_neg (by decide), xw_same]
  · rw [if_neg hj, xw_other (Or.inr hj)]
/-- iaload, caload, baload -/
theorem xr_iald (hexec : p.tables.exec = Jvm.exec) (hb : c.code = cc) (hK : va_K D vwCl (xT ca) s) (hR : xRep D ca G X μ H) (hk0 : G.1 a = 101) {n : Nat} (hn : G.2.2 a = n) {i : Int32} (hin : vp_in i n) (hdg : decode cc pc = .ok (.iaload, 1))
    (kk : W p l e R s m args below meth c H locs cells slots Q (F0 m (pc + 1) ls (.int (μ a i.toNatClampNeg) :: rest))) : W p l e R s m args below meth c H locs cells slots Q (F0 m pc ls (.int i :: .ref a :: rest)) := by
  have h := (xAt_num (t := 0) (by decide) hk0).mp (hR.1 a)
  rw [hn] at h
  exact va_iald hexec hb hK (xOne (q := (a, .inl (ca 0, n, .inl (μ a)))) h) 0 0 rfl rfl hin hdg kk
theorem xr_cald (hexec : p.tables.exec = Jvm.exec) (hb : c.code = cc) (hK : va_K D vwCl (xT ca) s) (hR : xRep D ca G X μ H) (hk0 : G.1 a = 102) {n : Nat} (hn : G.2.2 a = n) {i : Int32} (hin : vp_in i n) (hdg : decode cc pc = .ok (.caload, 1))
    (kk : W p l e R s m args below meth c H locs cells slots Q (F0 m (pc + 1) ls (.int (μ a i.toNatClampNeg) :: rest))) : W p l e R s m args below meth c H locs cells slots Q (F0 m pc ls (.int i :: .ref a :: rest)) := by
  have h := (xAt_num (t := 1) (by decide) hk0).mp (hR.1 a)
  rw [hn] at h
  exact va_cald hexec hb hK (xOne (q := (a, .inl (ca 1, n, .inl (μ a)))) h) 0 1 rfl rfl hin hdg kk
theorem xr_lald (hexec : p.tables.exec = Jvm.exec) (hb : c.code = cc) (hK : va_K D vwCl (xT ca) s) (hR : xRep D ca G X μ H) (hk0 : G.1 a = 104) {n : Nat} (hn : G.2.2 a = n) {i : Int32} (hin : vp_in i n) (hdg : decode cc pc = .ok (.laload, 1))
    (kk : W p l e R s m args below meth c H locs cells slots Q (F0 m (pc + 1) ls (.long (μ a i.toNatClampNeg).toInt64 :: rest))) : W p l e R s m args below meth c H locs cells slots Q (F0 m pc ls (.int i :: .ref a :: rest)) := by
  have h := (xAt_long hk0).mp (hR.1 a)
  rw [hn] at h
  exact va_lald hexec hb hK (xOne (q := (a, .inl (ca 3, n, .inr (.inl (fun j => (μ a j).toInt64))))) h) 0 3 rfl rfl hin hdg kk
/-- aaload of a row of references, t its kind (0 Bank, 1 Order, 2 Pledge) -/
theorem xr_aald (hexec : p.tables.exec = Jvm.exec) (hb : c.code = cc) (hK : va_K D vwCl (xT ca) s) (hR : xRep D ca G X μ H) (t : Nat) (ht : t < 3) (hk0 : G.1 a = 111 + t) {C : String} (hC : (xT ca)[4 + t]? = some (ca (4 + t), .object C)) {n b : Nat} (hn : G.2.2 a = n) {i : Int32} (hin : vp_in i n) (hb2 : G.2.1 a i.toNatClampNeg = some b) (hdg : decode cc pc = .ok (.aaload, 1))
    (kk : W p l e R s m args below meth c H locs cells slots Q (F0 m (pc + 1) ls (.ref b :: rest))) : W p l e R s m args below meth c H locs cells slots Q (F0 m pc ls (.int i :: .ref a :: rest)) := by
  have h := (xAt_refs ht hk0).mp (hR.1 a)
  rw [hn] at h
  refine va_aldq hexec hb hK (xOne (q := (a, .inl (ca (4 + t), n, .inr (.inr (.inr (.inr (G.2.1 a))))))) h) 0 (4 + t) rfl hC hin hdg ?_
  rw [hb2]
  exact kk
theorem xr_iast (hexec : p.tables.exec = Jvm.exec) (hb : c.code = cc) (hK : va_K D vwCl (xT ca) s) (hR : xRep D ca G X μ H) (hFx : xFix z G X) (hS : va_S (fun q => z ≤ q) H0 H locs) (hk0 : G.1 a = 101) {n : Nat} (hn : G.2.2 a = n) {i x : Int32} (hin : vp_in i n) (hdg : decode cc pc = .ok (.iastore, 1))
    (kk : ∀ (H1 : Heap) (locs1 : List Loc), xRep D ca G X (xw μ a i.toNatClampNeg x) H1 → va_S (fun q => z ≤ q) H0 H1 locs1 → W p l e R s m args below meth c H1 locs1 cells slots Q (F0 m (pc + 1) ls rest)) : W p l e R s m args below meth c H locs cells slots Q (F0 m pc ls (.int x :: .int i :: .ref a :: rest)) := by
  have h := (xAt_num (t := 0) (by decide) hk0).mp (hR.1 a)
  rw [hn] at h
  have hne : G.1 a ≠ 0 := by omega
  refine W.iast hexec hb h ((hK.2 0 (ca 0, .int) rfl).1 n (fun j => .int (μ a j))) (fun q => by cases q) (by show ¬ (i < 0 ∨ (arrV _ _ _).slots.size ≤ _); rw [arrV_size]; exact hin) rfl rfl hdg fun H1 e z oq => ?_
  refine kk H1 _ (hR.put hFx hne oq ((xAt_num (t := 0) (by decide) hk0).mpr ?_)) (hS.put z oq (hFx.1 a hne))
  rw [e, hn]
  show some ((arrV (ca 0) n (fun j => .int (μ a j))).setSlot _ _) = some (arrV (ca 0) n (fun j => .int (xw μ a i.toNatClampNeg x a j)))
  rw [arrV_store]
  congr 2
  funext q
  by_cases hq : q = i.toNatClampNeg
  · subst hq
    simp [updV, xw]
  · simp [updV, xw, hq]
theorem xr_cast (hexec : p.tables.exec = Jvm.exec) (hb : c.code = cc) (hK : va_K D vwCl (xT ca) s) (hR : xRep D ca G X μ H) (hFx : xFix z G X) (hS : va_S (fun q => z ≤ q) H0 H locs) (hk0 : G.1 a = 102) {n : Nat} (hn : G.2.2 a = n) {i x : Int32} (hin : vp_in i n) (hdg : decode cc pc = .ok (.castore, 1))
    (kk : ∀ (H1 : Heap) (locs1 : List Loc), xRep D ca G X (xw μ a i.toNatClampNeg (vp_nar .char x)) H1 → va_S (fun q => z ≤ q) H0 H1 locs1 → W p l e R s m args below meth c H1 locs1 cells slots Q (F0 m (pc + 1) ls rest)) : W p l e R s m args below meth c H locs cells slots Q (F0 m pc ls (.int x :: .int i :: .ref a :: rest)) := by
  have h := (xAt_num (t := 1) (by decide) hk0).mp (hR.1 a)
  rw [hn] at h
  have hne : G.1 a ≠ 0 := by omega
  refine W.cast hexec hb h ((hK.2 1 (ca 1, .char) rfl).1 n (fun j => .int (μ a j))) (fun q => by cases q) (by show ¬ (i < 0 ∨ (arrV _ _ _).slots.size ≤ _); rw [arrV_size]; exact hin) rfl rfl hdg fun H1 e z oq => ?_
  refine kk H1 _ (hR.put hFx hne oq ((xAt_num (t := 1) (by decide) hk0).mpr ?_)) (hS.put z oq (hFx.1 a hne))
  rw [e, hn]
  show some ((arrV (ca 1) n (fun j => .int (μ a j))).setSlot _ _) = some (arrV (ca 1) n (fun j => .int (xw μ a i.toNatClampNeg (vp_nar .char x) a j)))
  rw [arrV_store]
  congr 2
  funext q
  by_cases hq : q = i.toNatClampNeg
  · subst hq
    simp [updV, xw, vp_nar]
    try rfl
  · simp [updV, xw, hq]
theorem xr_last (hexec : p.tables.exec = Jvm.exec) (hb : c.code = cc) (hK : va_K D vwCl (xT ca) s) (hR : xRep D ca G X μ H) (hFx : xFix z G X) (hS : va_S (fun q => z ≤ q) H0 H locs) (hk0 : G.1 a = 104) {n : Nat} (hn : G.2.2 a = n) {i x : Int32} (hin : vp_in i n) (hdg : decode cc pc = .ok (.lastore, 1))
    (kk : ∀ (H1 : Heap) (locs1 : List Loc), xRep D ca G X (xw μ a i.toNatClampNeg x) H1 → va_S (fun q => z ≤ q) H0 H1 locs1 → W p l e R s m args below meth c H1 locs1 cells slots Q (F0 m (pc + 1) ls rest)) : W p l e R s m args below meth c H locs cells slots Q (F0 m pc ls (.long x.toInt64 :: .int i :: .ref a :: rest)) := by
  have h := (xAt_long hk0).mp (hR.1 a)
  rw [hn] at h
  have hne : G.1 a ≠ 0 := by omega
  refine W.last hexec hb h ((hK.2 3 (ca 3, .long) rfl).1 n (fun j => .long (μ a j).toInt64)) (fun q => by cases q) (by show ¬ (i < 0 ∨ (arrV _ _ _).slots.size ≤ _); rw [arrV_size]; exact hin) rfl rfl hdg fun H1 e z oq => ?_
  refine kk H1 _ (hR.put hFx hne oq ((xAt_long hk0).mpr ?_)) (hS.put z oq (hFx.1 a hne))
  rw [e, hn]
  show some ((arrV (ca 3) n (fun j => .long (μ a j).toInt64)).setSlot _ _) = some (arrV (ca 3) n (fun j => .long (xw μ a i.toNatClampNeg x a j).toInt64))
  rw [arrV_store]
  congr 2
  funext q
  by_cases hq : q = i.toNatClampNeg
  · subst hq
    simp [updV, xw]
  · simp [updV, xw, hq]
end XROWS
