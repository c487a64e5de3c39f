section XSC
variable {p : Program} {l : Launch} {e : Env} {R : Room} {s : State} {m : MethodId} {args : Array Value} {below : List Frame} {meth : Method} {c : Code} {H : Heap} {locs : List Loc} {cells slots : Nat} {Q : State → Prop}
variable {cc : ByteArray} {pc : Nat} {ls : Array Slot} {rest : List Value} {D : va_G} {ca : Nat → ClassId} {z sb v cap od v2 cap2 : Nat} {G : xG} {X : va_W} {μ : xM} {H0 : Heap} {ml k : Int32} {f f2 : Nat → Int32} {fd : Nat → UInt64} {index : Nat}
/-- a new byte[] beside X -/
theorem xPm {X L : va_W} {nb : Nat × va_E} : ((X ++ [nb]) ++ L).Perm ((X ++ L) ++ [nb]) := by
  rw [List.append_assoc, List.append_assoc]
  exact List.Perm.append_left X List.perm_append_comm
theorem xBk {D : va_G} {ca : Nat → ClassId} {z : Nat} {G : xG} {X L : va_W} {μ : xM} {H1 : Heap} {nb : Nat × va_E} (back : ∀ (X1 : va_W) (H1 : Heap), va_P D vwCl (X1 ++ L) H1 → va_D (fun q => z ≤ q) (X1 ++ L) → xRep D ca G X1 μ H1 ∧ xFix z G X1 ∧ va_D (fun q => z ≤ q) X1) (hP : va_P D vwCl ((X ++ L) ++ [nb]) H1) (hD : va_D (fun q => z ≤ q) ((X ++ L) ++ [nb])) : xRep D ca G (X ++ [nb]) μ H1 ∧ xFix z G (X ++ [nb]) ∧ va_D (fun q => z ≤ q) (X ++ [nb]) :=
  back (X ++ [nb]) H1 (xP_mem hP (fun q hq => xPm.mem_iff.mp hq)) (xD_nd.mpr ⟨((xPm.map _).nodup_iff).mpr (xD_nd.mp hD).1, fun q hq => (xD_nd.mp hD).2 q (xPm.mem_iff.mp hq)⟩)
theorem xB2 {D : va_G} {ca : Nat → ClassId} {s : State} {cA : ClassId} (hK : va_K D vwCl (xT ca) s) (hK1 : va_K D vwCl (xT ca ++ [(cA, .byte)]) s) : cA = ca 2 := by
  have e1 : va_RA s cA .byte := (hK1.2 8 (cA, .byte) rfl).2
  have e2 : va_RA s (ca 2) .byte := (hK.2 2 (ca 2, .byte) rfl).2
  unfold va_RA at e1 e2
  exact Option.some.inj (e1.symm.trans e2)
theorem sx_newb (hx : p.tables.exec = Jvm.exec) (hb : c.code = cc) (harr : (Cond.arrayClass .byte).before args s = true) (hK : va_K D vwCl (xT ca) s) (hR : xRep D ca G X μ H) (hF : xFix z G X) (hXD : va_D (fun q => z ≤ q) X) (hS : va_S (fun q => z ≤ q) H0 H locs) (hA : z ≤ H0.size) {n : Int32} {N : Nat} (hn : ¬ n < 0) (hN : n.toNatClampNeg = N) (hN2 : N ≤ 65536) (hcells : cells + 1 ≤ R.cells) (hslots : slots + N ≤ R.slots) (hdg : decode cc pc = .ok (.newarray .byte, 2))
    (kk : ∀ (q : Nat) (H1 : Heap), xRep D ca G (X ++ [xBy ca q N (fun _ => 0)]) μ H1 → xFix z G (X ++ [xBy ca q N (fun _ => 0)]) → va_D (fun q => z ≤ q) (X ++ [xBy ca q N (fun _ => 0)]) → va_S (fun q => z ≤ q) H0 H1 locs → W p l e R s m args below meth c H1 locs (cells + 1) (slots + N) Q (F0 m (pc + 2) ls (.ref q :: rest))) : W p l e R s m args below meth c H locs cells slots Q (F0 m pc ls (.int n :: rest)) := by
  obtain ⟨L, hP, hD, back⟩ := xBr hR hF hXD
  have hb9 : N * componentBytes .byte ≤ 536870912 := by
    rw [show componentBytes .byte = 1 from rfl]
    omega
  refine va_newa (atype := .byte) hx hb harr (ty := .byte) rfl hK hP hD hS (fun q hq => Nat.le_trans hA hq) (a0 := ((N, .inl (fun _ => 0)) : vp_A)) (fun cA => vp_cell_i cA N _) hn hN hb9 hcells hslots hdg (fun q cA H1 hK1 hP1 hD1 hS1 => ?_)
  have e3 := xB2 hK hK1
  subst e3
  obtain ⟨b1, b2, b3⟩ := xBk (nb := xBy ca q N (fun _ => 0)) back hP1 hD1
  exact kk q H1 b1 b2 b3 hS1
end XSC
