/-! THE STRINGBUILDER: a further cell of X, its bytes another; the flat store beside them. By xBr the kit's rows of a list of cells serve. -/
def xE9 (ca : Nat → ClassId) (G : xG) (μ : xM) (a : Nat) : va_E :=
  if G.1 a < 100 then .inr (G.1 a - 1, (List.range 20).map (xV G μ (G.1 a - 1) a))
  else if G.1 a < 104 then .inl (ca (G.1 a - 101), G.2.2 a, .inl (μ a))
  else if G.1 a = 104 then .inl (ca 3, G.2.2 a, .inr (.inl (fun j => (μ a j).toInt64)))
  else .inl (ca (G.1 a - 107), G.2.2 a, .inr (.inr (.inr (.inr (G.2.1 a)))))
theorem xN20 : ∀ (i : Nat) (r : vw_C), vwCl[i]? = some r → r.2.2 ≤ 20 := by
  intro i r h
  have : ∀ r ∈ vwCl, r.2.2 ≤ 20 := by
    intro r h
    simp only [vwCl, List.mem_cons, List.not_mem_nil, or_false] at h
    rcases h with rfl | rfl | rfl | rfl | rfl | rfl | rfl | rfl | rfl | rfl | rfl | rfl | rfl <;> decide
  exact this r (List.mem_of_getElem? h)
theorem xV20 {V : Nat → Value} {k : Nat} (hk : k < 20) : vp_V ((List.range 20).map V) k = V k := by
  unfold vp_V
  rw [List.getD_eq_getElem?_getD, List.getElem?_map, List.getElem?_range hk]
  rfl
theorem xAt_e9 {D : va_G} {ca : Nat → ClassId} {G : xG} {μ : xM} {a : Nat} {H : Heap} (h0 : G.1 a ≠ 0) : xAt D ca G μ a H ↔ va_at D vwCl (a, xE9 ca G μ a) H := by
  unfold xAt xE9
  rw [if_neg h0]
  by_cases h1 : G.1 a < 100
  · rw [if_pos h1, if_pos h1]
    constructor
    · rintro ⟨r, e1, e2⟩
      exact ⟨r, e1, e2.to (fun k hk => (xV20 (Nat.lt_of_lt_of_le hk (xN20 _ r e1))).symm)⟩
    · rintro ⟨r, e1, e2⟩
      exact ⟨r, e1, e2.to (fun k hk => xV20 (Nat.lt_of_lt_of_le hk (xN20 _ r e1)))⟩
  · rw [if_neg h1, if_neg h1]
    by_cases h2 : G.1 a < 104
    · rw [if_pos h2, if_pos h2]
      exact Iff.rfl
    · rw [if_neg h2, if_neg h2]
      by_cases h3 : G.1 a = 104
      · rw [if_pos h3, if_pos h3]
        exact Iff.rfl
      · rw [if_neg h3, if_neg h3]
        exact Iff.rfl
theorem xD_nd {A : Nat → Prop} {ws : va_W} : va_D A ws ↔ (ws.map (fun q => q.1)).Nodup ∧ ∀ q ∈ ws, A q.1 := by
  constructor
  · intro h
    refine ⟨List.pairwise_iff_getElem.mpr (fun i j hi hj hij e => ?_), fun q hq => ?_⟩
    · rw [List.length_map] at hi hj
      rw [List.getElem_map, List.getElem_map] at e
      exact absurd (h.1 i j _ _ (List.getElem?_eq_getElem hi) (List.getElem?_eq_getElem hj) e) (Nat.ne_of_lt hij)
    · obtain ⟨k, hk⟩ := List.getElem?_of_mem hq
      exact h.2 k q hk
  · rintro ⟨h1, h2⟩
    refine ⟨fun i j p q hp hq e => ?_, fun k q hk => h2 q (List.mem_of_getElem? hk)⟩
    have h := List.pairwise_iff_getElem.mp h1
    obtain ⟨hi, ei⟩ := List.getElem?_eq_some_iff.mp hp
    obtain ⟨hj, ej⟩ := List.getElem?_eq_some_iff.mp hq
    rcases Nat.lt_trichotomy i j with hij | hij | hij
    · exact absurd (by rw [List.getElem_map, List.getElem_map, ei, ej]; exact e) (h i j (by rw [List.length_map]; exact hi) (by rw [List.length_map]; exact hj) hij)
    · exact hij
    · exact absurd (by rw [List.getElem_map, List.getElem_map, ei, ej]; exact e.symm) (h j i (by rw [List.length_map]; exact hj) (by rw [List.length_map]; exact hi) hij)
theorem xP_mem {D : va_G} {cl : List vw_C} {ws ws' : va_W} {H : Heap} (h : va_P D cl ws H) (hs : ∀ q ∈ ws', q ∈ ws) : va_P D cl ws' H := by
  intro k q hk
  obtain ⟨j, hj⟩ := List.getElem?_of_mem (hs q (List.mem_of_getElem? hk))
  exact h j q hj
theorem xBr {D : va_G} {ca : Nat → ClassId} {z : Nat} {G : xG} {X : va_W} {μ : xM} {H : Heap} (hR : xRep D ca G X μ H) (hF : xFix z G X) (hXD : va_D (fun q => z ≤ q) X) : ∃ L : va_W, va_P D vwCl (X ++ L) H ∧ va_D (fun q => z ≤ q) (X ++ L) ∧ ∀ (X1 : va_W) (H1 : Heap), va_P D vwCl (X1 ++ L) H1 → va_D (fun q => z ≤ q) (X1 ++ L) → xRep D ca G X1 μ H1 ∧ xFix z G X1 ∧ va_D (fun q => z ≤ q) X1 := by
  have hlt : ∀ a, G.1 a ≠ 0 → a < H.size := fun a h0 => ((xAt_e9 h0).mp (hR.1 a)).lt
  let L : va_W := ((List.range H.size).filter (fun a => !(G.1 a == 0))).map (fun a => (a, xE9 ca G μ a))
  have hm : ∀ a, G.1 a ≠ 0 → (a, xE9 ca G μ a) ∈ L := fun a h0 => List.mem_map.mpr ⟨a, List.mem_filter.mpr ⟨List.mem_range.mpr (hlt a h0), by simpa using h0⟩, rfl⟩
  have hm' : ∀ q ∈ L, ∃ a, G.1 a ≠ 0 ∧ q = (a, xE9 ca G μ a) := by
    intro q hq
    obtain ⟨a, ha, e⟩ := List.mem_map.mp hq
    exact ⟨a, by simpa using (List.mem_filter.mp ha).2, e.symm⟩
  have hLn : (L.map (fun q => q.1)).Nodup := by
    show (List.map (fun q : Nat × va_E => q.1) (((List.range H.size).filter (fun a => !(G.1 a == 0))).map (fun a => (a, xE9 ca G μ a)))).Nodup
    rw [List.map_map]
    have : ((fun q : Nat × va_E => q.1) ∘ fun a => (a, xE9 ca G μ a)) = id := rfl
    rw [this, List.map_id]
    exact List.Nodup.sublist List.filter_sublist List.nodup_range
  refine ⟨L, hR.2.app (fun k q hk => ?_), xD_nd.mpr ⟨?_, fun q hq => ?_⟩, fun X1 H1 hP1 hD1 => ⟨⟨fun a => ?_, fun k q hk => ?_⟩, ⟨hF.1, fun k q hk => ⟨?_, ?_⟩⟩, ?_⟩⟩
  · obtain ⟨a, h0, rfl⟩ := hm' q (List.mem_of_getElem? hk)
    exact (xAt_e9 h0).mp (hR.1 a)
  · rw [List.map_append, List.nodup_append]
    refine ⟨(xD_nd.mp hXD).1, hLn, fun a ha b hb e => ?_⟩
    obtain ⟨q, hq, rfl⟩ := List.mem_map.mp ha
    obtain ⟨q2, hq2, rfl⟩ := List.mem_map.mp hb
    obtain ⟨a, h0, rfl⟩ := hm' q2 hq2
    obtain ⟨k, hk⟩ := List.getElem?_of_mem hq
    exact h0 (by rw [← show q.1 = a from e]; exact (hF.2 k q hk).1)
  · rcases List.mem_append.mp hq with h | h
    · exact (xD_nd.mp hXD).2 q h
    · obtain ⟨a, h0, rfl⟩ := hm' q h
      exact hF.1 a h0
  · by_cases h0 : G.1 a = 0
    · unfold xAt; rw [if_pos h0]; trivial
    · obtain ⟨k, hk⟩ := List.getElem?_of_mem (hm a h0)
      exact (xAt_e9 h0).mpr (hP1 (X1.length + k) _ (by rw [List.getElem?_append_right (Nat.le_add_right _ _), Nat.add_sub_cancel_left]; exact hk))
  · exact hP1 k q (by rw [List.getElem?_append_left (List.getElem?_eq_some_iff.mp hk).1]; exact hk)
  · have hkl := (List.getElem?_eq_some_iff.mp hk).1
    by_cases h0 : G.1 q.1 = 0
    · exact h0
    · obtain ⟨j, hj⟩ := List.getElem?_of_mem (hm q.1 h0)
      have := hD1.1 k (X1.length + j) q (q.1, xE9 ca G μ q.1) (by rw [List.getElem?_append_left hkl]; exact hk) (by rw [List.getElem?_append_right (Nat.le_add_right _ _), Nat.add_sub_cancel_left]; exact hj) rfl
      omega
  · exact hD1.2 k q (by rw [List.getElem?_append_left (List.getElem?_eq_some_iff.mp hk).1]; exact hk)
  · refine ⟨fun i j p q hp hq e => hD1.1 i j p q ?_ ?_ e, fun k q hk => hD1.2 k q ?_⟩
    · rw [List.getElem?_append_left (List.getElem?_eq_some_iff.mp hp).1]; exact hp
    · rw [List.getElem?_append_left (List.getElem?_eq_some_iff.mp hq).1]; exact hq
    · rw [List.getElem?_append_left (List.getElem?_eq_some_iff.mp hk).1]; exact hk
theorem inJ4 : ∀ w ∈ u_ws RJ4 TJ4 4, w ∈ xAll := fun w h => xin ((by decide +kernel : ∀ w ∈ u_ws RJ4 TJ4 4, w ∈ lw_tbl) w h) ((by decide +kernel : ∀ w ∈ u_ws RJ4 TJ4 4, goodWord w = true) w h)
/-- the StringBuilder at sb (its bytes at v, cap of them, f; count c), and the law's double -/
abbrev sX (ca : Nat → ClassId) (sb v cap od : Nat) (ml c : Int32) (f : Nat → Int32) (fd : Nat → UInt64) : va_W := [(sb, .inr (1, [.ref v, .int 0, .int ml, .int c])), (v, .inl (ca 2, cap, .inl f)), (od, xD ca fd)]
abbrev xBy (ca : Nat → ClassId) (q N : Nat) (g : Nat → Int32) : Nat × va_E := (q, .inl (ca 2, N, .inl g))
section XSB
variable {p : Program} {l : Launch} {e : Env} {R : Room} {s : State} {m : MethodId} {args : Array Value} {below : List Frame} {meth : Method} {c : Code} {H : Heap} {locs : List Loc} {cells slots : Nat} {Q : State → Prop}
variable {cc : ByteArray} {pc : Nat} {ls : Array Slot} {rest : List Value} {D : va_G} {ca : Nat → ClassId} {z sb v cap od v2 cap2 : Nat} {G : xG} {X : va_W} {μ : xM} {H0 : Heap} {ml k : Int32} {f f2 : Nat → Int32} {fd : Nat → UInt64} {index : Nat}
theorem sx_val (hx : p.tables.exec = Jvm.exec) (hb : c.code = cc) (hts : ∀ w ∈ xAll, w.before args s = true) (hown : s.vm.findClass RJ5 = some m.cls) (hK : va_K D vwCl (xT ca) s) (hR : xRep D ca G (sX ca sb v cap od ml k f fd) μ H) (hlink : .fieldLink RJ5 index "java/lang/AbstractStringBuilder" "value" "[B" ∈ xAll) (hdg : decode cc pc = .ok (.getfield index, 3))
    (kk : W p l e R s m args below meth c H locs cells slots Q (F0 m (pc + 3) ls (.ref v :: rest))) : W p l e R s m args below meth c H locs cells slots Q (F0 m pc ls (.ref sb :: rest)) :=
  va_get hx hb hts inJ4 hown hK hR.2 0 rfl rfl 0 (by decide) (hts _ hlink) (fun _ h => h) rfl hdg kk
theorem sx_cod (hx : p.tables.exec = Jvm.exec) (hb : c.code = cc) (hts : ∀ w ∈ xAll, w.before args s = true) (hown : s.vm.findClass RJ5 = some m.cls) (hK : va_K D vwCl (xT ca) s) (hR : xRep D ca G (sX ca sb v cap od ml k f fd) μ H) (hlink : .fieldLink RJ5 index "java/lang/AbstractStringBuilder" "coder" "B" ∈ xAll) (hdg : decode cc pc = .ok (.getfield index, 3))
    (kk : W p l e R s m args below meth c H locs cells slots Q (F0 m (pc + 3) ls (.int 0 :: rest))) : W p l e R s m args below meth c H locs cells slots Q (F0 m pc ls (.ref sb :: rest)) :=
  va_get hx hb hts inJ4 hown hK hR.2 0 rfl rfl 1 (by decide) (hts _ hlink) (fun _ h => h) rfl hdg kk
theorem sx_cnt (hx : p.tables.exec = Jvm.exec) (hb : c.code = cc) (hts : ∀ w ∈ xAll, w.before args s = true) (hown : s.vm.findClass RJ5 = some m.cls) (hK : va_K D vwCl (xT ca) s) (hR : xRep D ca G (sX ca sb v cap od ml k f fd) μ H) (hlink : .fieldLink RJ5 index "java/lang/AbstractStringBuilder" "count" "I" ∈ xAll) (hdg : decode cc pc = .ok (.getfield index, 3))
    (kk : W p l e R s m args below meth c H locs cells slots Q (F0 m (pc + 3) ls (.int k :: rest))) : W p l e R s m args below meth c H locs cells slots Q (F0 m pc ls (.ref sb :: rest)) :=
  va_get hx hb hts inJ4 hown hK hR.2 0 rfl rfl 3 (by decide) (hts _ hlink) (fun _ h => h) rfl hdg kk
theorem sx_len (hx : p.tables.exec = Jvm.exec) (hb : c.code = cc) (hK : va_K D vwCl (xT ca) s) (hR : xRep D ca G (sX ca sb v cap od ml k f fd) μ H) (hdg : decode cc pc = .ok (.arraylength, 1))
    (kk : W p l e R s m args below meth c H locs cells slots Q (F0 m (pc + 1) ls (.int (nI cap) :: rest))) : W p l e R s m args below meth c H locs cells slots Q (F0 m pc ls (.ref v :: rest)) :=
  va_alen hx hb hK hR.2 1 2 rfl rfl rfl hdg kk
theorem sx_bald (hx : p.tables.exec = Jvm.exec) (hb : c.code = cc) (hK : va_K D vwCl (xT ca) s) (hR : xRep D ca G (sX ca sb v cap od ml k f fd) μ H) {i : Int32} (hin : vp_in i cap) (hdg : decode cc pc = .ok (.baload, 1))
    (kk : W p l e R s m args below meth c H locs cells slots Q (F0 m (pc + 1) ls (.int (f i.toNatClampNeg) :: rest))) : W p l e R s m args below meth c H locs cells slots Q (F0 m pc ls (.int i :: .ref v :: rest)) :=
  va_bald hx hb hK hR.2 1 2 rfl rfl hin hdg kk
theorem sx_putc {k1 : Int32} (hx : p.tables.exec = Jvm.exec) (hb : c.code = cc) (hts : ∀ w ∈ xAll, w.before args s = true) (hown : s.vm.findClass RJ5 = some m.cls) (hK : va_K D vwCl (xT ca) s) (hR : xRep D ca G (sX ca sb v cap od ml k f fd) μ H) (hF : xFix z G (sX ca sb v cap od ml k f fd)) (hXD : va_D (fun q => z ≤ q) (sX ca sb v cap od ml k f fd)) (hS : va_S (fun q => z ≤ q) H0 H locs) (hlink : .fieldLink RJ5 index "java/lang/AbstractStringBuilder" "count" "I" ∈ xAll) (hdg : decode cc pc = .ok (.putfield index, 3))
    (kk : ∀ (H1 : Heap) (locs1 : List Loc), xRep D ca G (sX ca sb v cap od ml k1 f fd) μ H1 → xFix z G (sX ca sb v cap od ml k1 f fd) → va_D (fun q => z ≤ q) (sX ca sb v cap od ml k1 f fd) → va_S (fun q => z ≤ q) H0 H1 locs1 → W p l e R s m args below meth c H1 locs1 cells slots Q (F0 m (pc + 3) ls rest)) : W p l e R s m args below meth c H locs cells slots Q (F0 m pc ls (.int k1 :: .ref sb :: rest)) := by
  obtain ⟨L, hP, hD, back⟩ := xBr hR hF hXD
  refine va_put hx hb hts inJ4 tyJ4 tyJ4_ok nmJ4 hown hK hP hD hS 0 rfl rfl 3 (by decide) (hts _ hlink) (fun _ h => h) rfl (ty := .int) rfl rfl rfl (Nat.le_of_ble_eq_true rfl) hdg (fun H1 locs1 hP1 hD1 hS1 => ?_)
  obtain ⟨b1, b2, b3⟩ := back (sX ca sb v cap od ml k1 f fd) H1 hP1 hD1
  exact kk H1 locs1 b1 b2 b3 hS1
theorem sx_putm (hx : p.tables.exec = Jvm.exec) (hb : c.code = cc) (hts : ∀ w ∈ xAll, w.before args s = true) (hown : s.vm.findClass RJ5 = some m.cls) (hK : va_K D vwCl (xT ca) s) (hR : xRep D ca G (sX ca sb v cap od ml k f fd) μ H) (hF : xFix z G (sX ca sb v cap od ml k f fd)) (hXD : va_D (fun q => z ≤ q) (sX ca sb v cap od ml k f fd)) (hS : va_S (fun q => z ≤ q) H0 H locs) (hlink : .fieldLink RJ5 index "java/lang/AbstractStringBuilder" "maybeLatin1" "Z" ∈ xAll) (hdg : decode cc pc = .ok (.putfield index, 3))
    (kk : ∀ (H1 : Heap) (locs1 : List Loc), xRep D ca G (sX ca sb v cap od 1 k f fd) μ H1 → xFix z G (sX ca sb v cap od 1 k f fd) → va_D (fun q => z ≤ q) (sX ca sb v cap od 1 k f fd) → va_S (fun q => z ≤ q) H0 H1 locs1 → W p l e R s m args below meth c H1 locs1 cells slots Q (F0 m (pc + 3) ls rest)) : W p l e R s m args below meth c H locs cells slots Q (F0 m pc ls (.int 1 :: .ref sb :: rest)) := by
  obtain ⟨L, hP, hD, back⟩ := xBr hR hF hXD
  refine va_put hx hb hts inJ4 tyJ4 tyJ4_ok nmJ4 hown hK hP hD hS 0 rfl rfl 2 (by decide) (hts _ hlink) (fun _ h => h) rfl (ty := .boolean) rfl rfl rfl (Nat.le_of_ble_eq_true rfl) hdg (fun H1 locs1 hP1 hD1 hS1 => ?_)
  obtain ⟨b1, b2, b3⟩ := back (sX ca sb v cap od 1 k f fd) H1 hP1 hD1
  exact kk H1 locs1 b1 b2 b3 hS1
theorem sx_bast (hx : p.tables.exec = Jvm.exec) (hb : c.code = cc) (hK : va_K D vwCl (xT ca) s) (hR : xRep D ca G (sX ca sb v cap od ml k f fd) μ H) (hF : xFix z G (sX ca sb v cap od ml k f fd)) (hXD : va_D (fun q => z ≤ q) (sX ca sb v cap od ml k f fd)) (hS : va_S (fun q => z ≤ q) H0 H locs) {i x : Int32} (j : Nat) (hj : i.toNatClampNeg = j) (hin : vp_in i cap) (y : Int32) (hy : vp_nar .byte x = y) (hdg : decode cc pc = .ok (.bastore, 1))
    (kk : ∀ (H1 : Heap) (locs1 : List Loc), xRep D ca G (sX ca sb v cap od ml k (upd f j y) fd) μ H1 → xFix z G (sX ca sb v cap od ml k (upd f j y) fd) → va_D (fun q => z ≤ q) (sX ca sb v cap od ml k (upd f j y) fd) → va_S (fun q => z ≤ q) H0 H1 locs1 → W p l e R s m args below meth c H1 locs1 cells slots Q (F0 m (pc + 1) ls rest)) : W p l e R s m args below meth c H locs cells slots Q (F0 m pc ls (.int x :: .int i :: .ref v :: rest)) := by
  subst hj
  subst hy
  obtain ⟨L, hP, hD, back⟩ := xBr hR hF hXD
  refine va_bast hx hb hK hP hD hS 1 2 rfl rfl hin hdg (fun H1 locs1 hP1 hD1 hS1 => ?_)
  obtain ⟨b1, b2, b3⟩ := back (sX ca sb v cap od ml k (upd f i.toNatClampNeg (vp_nar .byte x)) fd) H1 hP1 hD1
  exact kk H1 locs1 b1 b2 b3 hS1
end XSB
