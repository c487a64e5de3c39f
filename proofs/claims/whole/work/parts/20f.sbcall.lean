/-! how the StringBuilder's methods are called: private ones, and its superclass's -/
theorem xSelP {C : String} {y y0 : MethodName} {s : State} {args : Array Value} {n : Nat} (hy : y.cls ≠ "java/lang/invoke/MethodHandle" ∧ y.cls ≠ "java/lang/invoke/VarHandle") (h0 : (Cond.selects C y0 y0).before args s = true) (hc0 : y0.cls = y.cls)
    (hins : (Cond.instantiable C n).before args s = true) (hpriv : (Cond.privateMethod y).before args s = true) (hinst : (Cond.instanceMethod y).before args s = true) :
    (Cond.selects C y y).before args s = true := by
  obtain ⟨c, k, hc, hk, -, hniab, -, -⟩ := Cond.instantiable_spec hins
  obtain ⟨mk, methM, hnamed, hmethM, -, -⟩ := Cond.instanceMethod_spec hinst
  obtain ⟨-, -, m0, -, -, q3, -, k0, q5, q6⟩ := Cond.selects_spec h0
  have hfound : s.methodFound? y.cls y.name y.desc = some mk := State.methodFound?_of_named hnamed hy
  have hsel : selectMethod {} s.vm c mk = .method mk := selectMethod_private hmethM (Cond.privateMethod_at hpriv mk methM hnamed hmethM)
  have e1 := findClass_of_methodNamed hnamed
  have e2 := findClass_of_methodNamed q3
  rw [hc0, e1] at e2
  have e3 : m0.cls = mk.cls := (Option.some.inj e2).symm
  rw [e3] at q5
  simp only [Cond.before, Cond.holds, Cond.value, hc, hfound, hnamed, hsel, hk]
  simp [q5, q6]
theorem xcwP {R : Room} {s : State} {args : Array Value} {own C : String} {index maxL d mc ms : Nat} {y y0 : MethodName} {bytes : ByteArray} {ret : Option FieldType} (n k : Nat) (hts : ∀ w ∈ xAll, w.before args s = true) (hi : .instanceMethod y ∈ xAll) (hp : va_Nw (.privateMethod y) s) (hk : .instantiable C k ∈ xAll) (h0 : .selects C y0 y0 ∈ xAll) (hc0 : y0.cls = y.cls) (hini : .initialized y.cls ∈ xAll) (hcode : .code y bytes maxL ret ∈ xAll) (hy : y.cls ≠ "java/lang/invoke/MethodHandle" ∧ y.cls ≠ "java/lang/invoke/VarHandle" ∧ (parseMethodDescriptor y.desc).map (fun d => d.parameters.length) = some n) (hl : .methodLink own index y ∈ xAll) (hR : (xRm d mc ms).frames + 1 ≤ R.frames ∧ 8 + (maxL + 11) + (xRm d mc ms).locals ≤ R.locals) : CallW R s args own C index y bytes maxL ret (xws y bytes maxL ret) (xRm d mc ms) mc ms n :=
  ⟨callB_of n hts (xgood hcode) rfl rfl rfl (hts _ hini) (hts _ hl) hy hR, hts _ hi, xSelP ⟨hy.1, hy.2.1⟩ (hts _ h0) hc0 (hts _ hk) (va_Nw.use rfl hp) (hts _ hi)⟩
theorem xcwU {R : Room} {s : State} {args : Array Value} {own : String} {index maxL d mc ms : Nat} {y : MethodName} {bytes : ByteArray} {ret : Option FieldType} (n : Nat) (hts : ∀ w ∈ xAll, w.before args s = true) (hi : .instanceMethod y ∈ xAll) (hsm : .sameMethod y.cls y.cls y.name y.desc ∈ xAll) (hsup : .superclass own y.cls ∈ xAll) (hini : .initialized y.cls ∈ xAll) (hcode : .code y bytes maxL ret ∈ xAll) (hy : y.name ≠ "<init>" ∧ (parseMethodDescriptor y.desc).map (fun d => d.parameters.length) = some n) (hl : .methodLink own index y ∈ xAll) (hR : (xRm d mc ms).frames + 1 ≤ R.frames ∧ 8 + (maxL + 11) + (xRm d mc ms).locals ≤ R.locals) : va_CS R s args own index y bytes maxL ret (xws y bytes maxL ret) (xRm d mc ms) mc ms n := by
  have hG : GoodIn xAll (va_wsSU own index y (xws y bytes maxL ret)) := by
    intro w hw
    have hm : w ∈ xAll := by
      unfold va_wsSU at hw
      simp only [List.mem_append, List.mem_cons, List.not_mem_nil, or_false] at hw
      rcases hw with (rfl | rfl | rfl | rfl | rfl) | rfl | hw
      · exact hl
      · exact hsm
      · exact hsup
      · exact hi
      · exact hini
      · exact hcode
      · exact hw
    exact ⟨hm, good_of_word (xAll_good w hm)⟩
  exact va_cwSU n hts hG rfl rfl rfl hy hR
theorem xSat {D : va_G} {ca : Nat → ClassId} {s : State} (hK : va_K D vwCl (xT ca) s) : ClassAt s RJ4 (D.1 1) := by
  obtain ⟨-, hfc, kC, hkC, hkind⟩ := hK.1 1 (RJ4, TJ4, 4) rfl
  exact ⟨hfc, kC, hkC, hkind⟩
section XCX
variable {p : Program} {l : Launch} {e : Env} {R : Room} {s : State} {m : MethodId} {args : Array Value} {below : List Frame} {meth : Method} {c : Code} {H : Heap} {locs : List Loc} {cells slots : Nat} {Q : State → Prop}
variable {cc : ByteArray} {pc : Nat} {ls : Array Slot} {rest : List Value} {D : va_G} {ca : Nat → ClassId} {z sb v cap od q : Nat} {G : xG} {X : va_W} {μ : xM} {H0 : Heap} {ml k : Int32} {f g : Nat → Int32} {fd : Nat → UInt64} {index : Nat}
/-- the new bytes take the old ones' place -/
theorem sx_putv (hx : p.tables.exec = Jvm.exec) (hb : c.code = cc) (hts : ∀ w ∈ xAll, w.before args s = true) (hown : s.vm.findClass RJ5 = some m.cls) (hK : va_K D vwCl (xT ca) s) (hR : xRep D ca G (sX ca sb v cap od ml k f fd ++ [xBy ca q 34 g]) μ H) (hF : xFix z G (sX ca sb v cap od ml k f fd ++ [xBy ca q 34 g])) (hXD : va_D (fun q => z ≤ q) (sX ca sb v cap od ml k f fd ++ [xBy ca q 34 g])) (hS : va_S (fun q => z ≤ q) H0 H locs) (hlink : .fieldLink RJ5 index "java/lang/AbstractStringBuilder" "value" "[B" ∈ xAll) (hdg : decode cc pc = .ok (.putfield index, 3))
    (kk : ∀ (H1 : Heap) (locs1 : List Loc), xRep D ca G (sX ca sb q 34 od ml k g fd) μ H1 → xFix z G (sX ca sb q 34 od ml k g fd) → va_D (fun q => z ≤ q) (sX ca sb q 34 od ml k g fd) → va_S (fun q => z ≤ q) H0 H1 locs1 → W p l e R s m args below meth c H1 locs1 cells slots Q (F0 m (pc + 3) ls rest)) : W p l e R s m args below meth c H locs cells slots Q (F0 m pc ls (.ref q :: .ref sb :: rest)) := by
  obtain ⟨L, hP, hD, back⟩ := xBr hR hF hXD
  refine va_put hx hb hts inJ4 tyJ4 tyJ4_ok nmJ4 hown hK hP hD hS 0 rfl rfl 0 (by decide) (hts _ hlink) (fun _ h => h) rfl (ty := .array .byte) rfl rfl rfl (Nat.le_of_ble_eq_true rfl) hdg (fun H1 locs1 hP1 hD1 hS1 => ?_)
  have hsub : ∀ w ∈ sX ca sb q 34 od ml k g fd ++ L, w ∈ ((sX ca sb v cap od ml k f fd ++ [xBy ca q 34 g]) ++ L).set 0 (sb, .inr (1, [Value.ref v, .int 0, .int ml, .int k].set 0 (.ref q))) := by
    intro w hw
    simp only [sX, xBy, List.cons_append, List.nil_append, List.set_cons_zero, List.mem_cons] at hw ⊢
    rcases hw with h | h | h | h
    · exact Or.inl h
    · exact Or.inr (Or.inr (Or.inr (Or.inl h)))
    · exact Or.inr (Or.inr (Or.inl h))
    · exact Or.inr (Or.inr (Or.inr (Or.inr h)))
  have hnd := (xD_nd.mp hD1).1
  obtain ⟨b1, b2, b3⟩ := back (sX ca sb q 34 od ml k g fd) H1 (xP_mem hP1 hsub) (xD_nd.mpr ⟨by
    simp only [sX, xBy, List.cons_append, List.nil_append, List.set_cons_zero, List.map_cons, List.nodup_cons, List.mem_cons, not_or] at hnd ⊢
    obtain ⟨⟨a1, a2, a3, a4⟩, ⟨a5, a6, a7⟩, ⟨a8, a9⟩, a10, a11⟩ := hnd
    exact ⟨⟨a3, a2, a4⟩, ⟨fun e => a8 e.symm, a10⟩, a9, a11⟩, fun w hw => (xD_nd.mp hD1).2 w (hsub w hw)⟩)
  exact kk H1 locs1 b1 b2 b3 hS1
/-- System.arraycopy of the old bytes into the new -/
theorem sx_copy (hx : p.tables.exec = Jvm.exec) (hb : c.code = cc) (hml : c.maxLocals = ls.size) {own : String} (hown : s.vm.findClass own = some m.cls) (hlink : (Cond.methodLink own index arraycopyName).before args s = true) (hnat : (Cond.native arraycopyName).before args s = true) (hstat : (Cond.static arraycopyName).before args s = true) (hini : (Cond.initialized "java/lang/System").before args s = true)
    (hK : va_K D vwCl (xT ca) s) (hR : xRep D ca G (sX ca sb v 16 od ml k f fd ++ [xBy ca q 34 g]) μ H) (hF : xFix z G (sX ca sb v 16 od ml k f fd ++ [xBy ca q 34 g])) (hXD : va_D (fun q => z ≤ q) (sX ca sb v 16 od ml k f fd ++ [xBy ca q 34 g])) (hS : va_S (fun q => z ≤ q) H0 H locs) (hf : sb_Fit f) (hframes : 1 ≤ R.frames) (hlocals : (rest.map fun v => v.category).sum + (nativeFrameWords "java/lang/System" "arraycopy" 5 + 11) ≤ R.locals) (hdg : decode cc pc = .ok (.invokestatic index, 3))
    (kk : ∀ (H1 : Heap) (locs1 : List Loc), xRep D ca G (sX ca sb v 16 od ml k f fd ++ [xBy ca q 34 (va_cpy f g 0 0 16)]) μ H1 → xFix z G (sX ca sb v 16 od ml k f fd ++ [xBy ca q 34 (va_cpy f g 0 0 16)]) → va_D (fun q => z ≤ q) (sX ca sb v 16 od ml k f fd ++ [xBy ca q 34 (va_cpy f g 0 0 16)]) → va_S (fun q => z ≤ q) H0 H1 locs1 → W p l e R s m args below meth c H1 locs1 cells slots Q (F0 m (pc + 3) ls rest)) : W p l e R s m args below meth c H locs cells slots Q (F0 m pc ls (.int (nI 16) :: .int 0 :: .ref q :: .int 0 :: .ref v :: rest)) := by
  obtain ⟨L, hP, hD, back⟩ := xBr hR hF hXD
  have e16 : (nI 16).toNatClampNeg = 16 := by decide
  have e0 : (0 : Int32).toNatClampNeg = 0 := by decide
  refine va_copyi hx hb hml hown hlink hnat hstat hini hK hP hD hS 1 3 2 2 rfl rfl rfl rfl rfl (by decide) (by decide) (by decide) (by rw [e16, e0]; decide) (by rw [e16, e0]; decide) (fun i _ => hf _) hframes hlocals hdg (fun H1 locs1 hP1 hD1 hS1 => ?_)
  rw [e16, e0] at hP1 hD1
  obtain ⟨b1, b2, b3⟩ := back (sX ca sb v 16 od ml k f fd ++ [xBy ca q 34 (va_cpy f g 0 0 16)]) H1 hP1 hD1
  exact kk H1 locs1 b1 b2 b3 hS1
end XCX
