/-! THE LAW FROM ITS ENTRY TO ITS END, what holds at the entry given -/
theorem lw_AO {args : Array Value} {s : State} (hts : ∀ w ∈ lw_tbl, w.before args s = true) : xAO s := ⟨va_AO.of (hts _ (by decide +kernel)), va_AO.of (hts _ (by decide +kernel)), va_AO.of (hts _ (by decide +kernel))⟩
theorem le_bt : ∀ w ∈ xBad, w.onTables = true := by decide +kernel
theorem le_bd : ∀ w ∈ xBad, w ∈ lw_tbl := by decide +kernel
theorem whole_go {p : Program} {e : Env} {s : State} {m : MethodId} {below : List Frame} {meth : Method} {c : Code} {l : Launch} {ad av : Nat → Nat} (hls : l.stackTraces = false) {b L : Nat} {xs : Nat → Int32} (hL : L ≤ 2048) (C0 : lw_At p s m meth c b L xs) (hE : xEv s.heap.size ad av s s.heap) : W p l e room_1 s m #[Value.ref b] below meth c s.heap [] 0 0 (lw_Z below #[Value.ref b] s) (entryFrame m ([Value.ref b] : List Value).toArray 9) := by
  obtain ⟨hx, hb, hr, hml, hown, hts, hX, hbl, hlocks, hgv⟩ := id C0
  have hA := lw_AO hts
  obtain ⟨D, ca, hK⟩ := lw_K hts hA
  have htx : ∀ w ∈ xAll, w.before #[Value.ref b] s = true := fun w hw => hts w (List.mem_filter.mp hw).1
  have hl := lv_entry ([.ref b]) (n := 9) (Nat.le_of_ble_eq_true rfl)
  rw [lg_entry_eq]
  generalize (lg_sl ([.ref b]) ++ List.replicate (9 - (lg_sl ([.ref b])).length) Slot.unset).toArray = ls at hl ⊢
  have hl : lv_has ls 9 [(0, .ref b)] := hl
  have h9 : μf s.heap.size (s.heap.size + 249) 3 = 0 := by rw [μ0_at (d := 249) (by decide)]
  refine law_entry hx hb hml htx hown hK hE hA hl (fun H locs ls hR hF hXD hS hl => ?_)
  exact law_loop hls hx hb hr hml hlocks htx hown hK hE hX hbl hL (xI_coatL xL_coat) (xI_modelL xL_model) xI_outL (fun i μ => yInv s.heap.size i μ) (fun i μ s0 s1 s2 s3 hi h => y_step i μ s0 s1 s2 s3 hi h) 512 0 (by omega) (by omega) (μf s.heap.size) (y_st0 xL_coat xL_model h9) _ (fun _ => 0) ⟨0, fun _ => 0, ⟨_, 16, 0, fun _ => 0, rfl, Or.inl rfl, by omega, fun j hj => absurd hj (by omega), fun j => (by decide : fits .byte (.int 0) = true)⟩, h9, fun j hj => absurd hj (by omega)⟩ hF hXD H locs ls 261 5172 (by omega) (by omega) hR hS hl
