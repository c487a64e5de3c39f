/-! the law's own rows: its script, its helpers, its room -/
def xFh (y : MethodName) (b : ByteArray) (nL : Nat) (ret : Option FieldType) (hh : List (Nat × Nat × Nat × Nat)) (n : Nat) : Prop := .static y ∈ xAll ∧ .initialized y.cls ∈ xAll ∧ .codeWith y b nL ret hh ∈ xAll ∧ (y.cls ≠ "java/lang/invoke/MethodHandle" ∧ y.cls ≠ "java/lang/invoke/VarHandle" ∧ (parseMethodDescriptor y.desc).map (fun d => d.parameters.length) = some n)
theorem xhI {j L c : Nat} (hc : c < 4) (hj : j + 4 ≤ L) (hL : L ≤ 2048) : (nI j + Int32.ofNat c).toNatClampNeg = j + c := by
  show (nI j + nI c).toNatClampNeg = j + c
  rw [nI_add, nI_clamp (by omega)]
theorem xhV {j L c : Nat} (hc : c < 4) (hj : j + 4 ≤ L) (hL : L ≤ 2048) : vp_in (nI j + Int32.ofNat c) L := by
  show vp_in (nI j + nI c) L
  rw [nI_add]
  exact vp_in_nI (by omega) (by omega)
theorem xhI0 {j L : Nat} (hj : j + 4 ≤ L) (hL : L ≤ 2048) : (nI j).toNatClampNeg = j := nI_clamp (by omega)
theorem xhV0 {j L : Nat} (hj : j + 4 ≤ L) (hL : L ≤ 2048) : vp_in (nI j) L := vp_in_nI (by omega) (by omega)
theorem xhI1 {j L : Nat} (hj : j + 4 ≤ L) (hL : L ≤ 2048) : (nI j + (1 : Int32)).toNatClampNeg = j + 1 := xhI (c := 1) (by decide) hj hL
theorem xhV1 {j L : Nat} (hj : j + 4 ≤ L) (hL : L ≤ 2048) : vp_in (nI j + (1 : Int32)) L := xhV (c := 1) (by decide) hj hL
theorem xhI2 {j L : Nat} (hj : j + 4 ≤ L) (hL : L ≤ 2048) : (nI j + (2 : Int32)).toNatClampNeg = j + 2 := xhI (c := 2) (by decide) hj hL
theorem xhV2 {j L : Nat} (hj : j + 4 ≤ L) (hL : L ≤ 2048) : vp_in (nI j + (2 : Int32)) L := xhV (c := 2) (by decide) hj hL
theorem xhI3 {j L : Nat} (hj : j + 4 ≤ L) (hL : L ≤ 2048) : (nI j + (3 : Int32)).toNatClampNeg = j + 3 := xhI (c := 3) (by decide) hj hL
theorem xhV3 {j L : Nat} (hj : j + 4 ≤ L) (hL : L ≤ 2048) : vp_in (nI j + (3 : Int32)) L := xhV (c := 3) (by decide) hj hL
section XLW
variable {p : Program} {l : Launch} {e : Env} {R : Room} {s : State} {m : MethodId} {args : Array Value} {below : List Frame} {meth : Method} {c : Code} {H : Heap} {locs : List Loc} {cells slots mc ms : Nat} {Q : State → Prop}
variable {cc : ByteArray} {pc : Nat} {ls : Array Slot} {rest st : List Value} {D : va_G} {ca : Nat → ClassId} {z a b : Nat} {G : xG} {X : va_W} {μ μ1 : xM} {ad av : Nat → Nat} {r : Int32} {H0 : Heap}
variable {y : MethodName} {bytes : ByteArray} {maxL nL n index d : Nat} {ws : List Cond} {C : String} {As : List Value} {hh : List (Nat × Nat × Nat × Nat)} {rt : FieldType}
theorem xr_sld (k : Nat) {L : Nat} {xs : Nat → Int32} (hx : p.tables.exec = Jvm.exec) (hb : c.code = cc) (hX : va_X a L xs s H0) (hbl : a < H0.size) (hbA : ¬ z ≤ a) (hS : va_S (fun q => z ≤ q) H0 H locs) {i : Int32} (hk : i.toNatClampNeg = k) (hin : vp_in i L) (hdg : decode cc pc = .ok (.iaload, 1))
    (kk : W p l e R s m args below meth c H locs cells slots Q (F0 m (pc + 1) ls (.int (xs k) :: rest))) : W p l e R s m args below meth c H locs cells slots Q (F0 m pc ls (.int i :: .ref a :: rest)) := by
  subst hk
  exact va_sld hx hb hX hbl hbA hS hin hdg kk
theorem xl_call (S : CallFix p m c cc nL s args xAll RL) (hM : xMw l y (xwh y bytes maxL (some rt) hh) d mc ms D ca z G X ad av As μ r μ1) (fh : xFh y bytes maxL (some rt) hh n) (hl : .methodLink RL index y ∈ xAll) (hd : d + 1 ≤ 2048 ∧ 8 + (maxL + 11) + 64 * d ≤ 94400) (hR : xRep D ca G X μ H) (hK : va_K D vwCl (xT ca) s) (hE : xEv z ad av s s.heap) (hS : va_S (fun q => z ≤ q) s.heap H locs)
    (hn : As.length = n) (hsize : ls.size = nL) (hst : st = As.reverse ++ rest) (hW : (rest.map fun v => v.category).sum ≤ 8) (hdg : decode cc pc = .ok (.invokestatic index, 3)) (hf : cells + mc ≤ 603072 ∧ slots + ms ≤ 7211114)
    (kk : ∀ (H1 : Heap) (locs1 : List Loc), xRep D ca G X μ1 H1 → va_S (fun q => z ≤ q) s.heap H1 locs1 → W p l e room_1 s m args below meth c H1 locs1 (cells + mc) (slots + ms) Q (F0 m (pc + 3) ls (.int r :: rest))) : W p l e room_1 s m args below meth c H locs cells slots Q (F0 m pc ls st) := by
  have hG : GoodIn xAll (va_wsS RL index y (xwh y bytes maxL (some rt) hh)) := by
    intro w hw
    have hm : w ∈ xAll := by
      unfold va_wsS at hw
      simp only [List.mem_append, List.mem_cons, List.not_mem_nil, or_false] at hw
      rcases hw with (rfl | rfl | rfl) | rfl | hw
      · exact hl
      · exact fh.1
      · exact fh.2.1
      · exact fh.2.2.1
      · exact hw
    exact ⟨hm, good_of_word (xAll_good w hm)⟩
  have cw : vx_CSW room_1 s args RL index y bytes maxL (some rt) hh (xwh y bytes maxL (some rt) hh) (xRm d mc ms) mc ms n := vx_cwSW n S.2.2.2.2 hG rfl rfl rfl fh.2.2.2 hd
  refine va_calli (vx_runSW (As := As) (rest := rest) S hM cw ⟨xSt_blind, xSt_at hR hK hE hS⟩ rfl hn hsize hst (lv_room hW) hdg hf) hS (fun q _ h => h) (fun q h => h) (fun r1 u t H1 locs1 ht hvm hw hB hz1 hk1 hS1 => ?_)
  obtain ⟨hR1, -⟩ := hB
  rw [ht] at hR1
  subst hw
  exact kk H1 locs1 hR1 hS1
theorem xl_iV (S : CallFix p m c cc nL s args xAll RL) (hM : xMi l y (xws y bytes maxL (some rt)) d D ca z G X ad av (.ref b :: As) μ r μ1) (fd : xFd y bytes maxL (some rt) n) (hl : .methodLink RL index y ∈ xAll) (hd : d + 1 ≤ 2048 ∧ 8 + (maxL + 11) + 64 * d ≤ 94400) (hrv : ∃ cell : Cell, H[b]? = some cell ∧ cell.vm.isStatics = false ∧ s.vm.findClass y.cls = some cell.cls) (hR : xRep D ca G X μ H) (hK : va_K D vwCl (xT ca) s) (hE : xEv z ad av s s.heap) (hS : va_S (fun q => z ≤ q) s.heap H locs)
    (hn : As.length = n) (hsize : ls.size = nL) (hst : st = As.reverse ++ .ref b :: rest) (hW : (rest.map fun v => v.category).sum ≤ 8) (hdg : decode cc pc = .ok (.invokevirtual index, 3)) (hf : cells ≤ 603072 ∧ slots ≤ 7211114)
    (kk : ∀ (H1 : Heap) (locs1 : List Loc), xRep D ca G X μ1 H1 → va_S (fun q => z ≤ q) s.heap H1 locs1 → W p l e room_1 s m args below meth c H1 locs1 cells slots Q (F0 m (pc + 3) ls (.int r :: rest))) : W p l e room_1 s m args below meth c H locs cells slots Q (F0 m pc ls st) :=
  xc_iV (As := As) (rest := rest) S hM (xcwV (mc := 0) (ms := 0) n S.2.2.2.2 fd hl hd) hrv hR hK hE hS hn hsize hst hW hdg hf kk
end XLW
