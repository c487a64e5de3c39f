/-! helpers: the tables' good words in one list; the functions' words; places of the layout -/
def xAll : List Cond := lw_tbl.filter goodWord
theorem xin {w : Cond} (h : w ∈ lw_tbl) (g : goodWord w = true) : w ∈ xAll := List.mem_filter.mpr ⟨h, g⟩
theorem xtt {w : Cond} (h : w ∈ tables_1) (g : goodWord w = true) : w ∈ xAll := xin (List.mem_append_right _ h) g
theorem xtp {w : Cond} {i : Nat} (h : (k2_sels lw_privs)[i]? = some w) (g : goodWord w = true) : w ∈ xAll := xin (List.mem_append_left _ (List.mem_of_getElem? h)) g
theorem xt1 {w : Cond} {i : Nat} (h : tables_1_1[i]? = some w) (g : goodWord w = true) : w ∈ xAll := xtt (List.mem_append_left _ (List.mem_of_getElem? h)) g
theorem xt2 {w : Cond} {i : Nat} (h : tables_1_2[i]? = some w) (g : goodWord w = true) : w ∈ xAll := xtt (List.mem_append_right _ (List.mem_append_left _ (List.mem_of_getElem? h))) g
theorem xt3 {w : Cond} {i : Nat} (h : tables_1_3[i]? = some w) (g : goodWord w = true) : w ∈ xAll := xtt (List.mem_append_right _ (List.mem_append_right _ (List.mem_append_left _ (List.mem_of_getElem? h)))) g
theorem xt4 {w : Cond} {i : Nat} (h : tables_1_4[i]? = some w) (g : goodWord w = true) : w ∈ xAll := xtt (List.mem_append_right _ (List.mem_append_right _ (List.mem_append_right _ (List.mem_append_left _ (List.mem_of_getElem? h))))) g
theorem xt5 {w : Cond} {i : Nat} (h : tables_1_5[i]? = some w) (g : goodWord w = true) : w ∈ xAll := xtt (List.mem_append_right _ (List.mem_append_right _ (List.mem_append_right _ (List.mem_append_right _ (List.mem_append_left _ (List.mem_of_getElem? h)))))) g
theorem xt6 {w : Cond} {i : Nat} (h : tables_1_6[i]? = some w) (g : goodWord w = true) : w ∈ xAll := xtt (List.mem_append_right _ (List.mem_append_right _ (List.mem_append_right _ (List.mem_append_right _ (List.mem_append_right _ (List.mem_append_left _ (List.mem_of_getElem? h))))))) g
theorem xt7 {w : Cond} {i : Nat} (h : tables_1_7[i]? = some w) (g : goodWord w = true) : w ∈ xAll := xtt (List.mem_append_right _ (List.mem_append_right _ (List.mem_append_right _ (List.mem_append_right _ (List.mem_append_right _ (List.mem_append_right _ (List.mem_append_left _ (List.mem_of_getElem? h)))))))) g
theorem xt8 {w : Cond} {i : Nat} (h : tables_1_8[i]? = some w) (g : goodWord w = true) : w ∈ xAll := xtt (List.mem_append_right _ (List.mem_append_right _ (List.mem_append_right _ (List.mem_append_right _ (List.mem_append_right _ (List.mem_append_right _ (List.mem_append_right _ (List.mem_of_getElem? h)))))))) g
theorem xAll_good : ∀ w ∈ xAll, goodWord w = true := fun _ h => (List.mem_filter.mp h).2
abbrev xws (y : MethodName) (b : ByteArray) (n : Nat) (ret : Option FieldType) : List Cond := .code y b n ret :: xAll
def xFd (y : MethodName) (b : ByteArray) (nL : Nat) (ret : Option FieldType) (n : Nat) : Prop := .instanceMethod y ∈ xAll ∧ .selects y.cls y y ∈ xAll ∧ .initialized y.cls ∈ xAll ∧ .code y b nL ret ∈ xAll ∧ (y.cls ≠ "java/lang/invoke/MethodHandle" ∧ y.cls ≠ "java/lang/invoke/VarHandle" ∧ (parseMethodDescriptor y.desc).map (fun d => d.parameters.length) = some n)
def xFs (y : MethodName) (b : ByteArray) (nL : Nat) (ret : Option FieldType) (n : Nat) : Prop := .static y ∈ xAll ∧ .initialized y.cls ∈ xAll ∧ .code y b nL ret ∈ xAll ∧ (y.cls ≠ "java/lang/invoke/MethodHandle" ∧ y.cls ≠ "java/lang/invoke/VarHandle" ∧ (parseMethodDescriptor y.desc).map (fun d => d.parameters.length) = some n)
theorem xgood {y : MethodName} {b : ByteArray} {nL : Nat} {ret : Option FieldType} (h : .code y b nL ret ∈ xAll) : GoodIn xAll (xws y b nL ret) := by
  intro w hw
  have hm : w ∈ xAll := by
    rcases List.mem_cons.mp hw with e | e
    · rw [e]; exact h
    · exact e
  exact ⟨hm, good_of_word (xAll_good w hm)⟩
theorem xcwV {R : Room} {s : State} {args : Array Value} {own : String} {index maxL d mc ms : Nat} {y : MethodName} {bytes : ByteArray} {ret : Option FieldType} (n : Nat) (hts : ∀ w ∈ xAll, w.before args s = true) (f : xFd y bytes maxL ret n) (hl : .methodLink own index y ∈ xAll) (hR : (xRm d mc ms).frames + 1 ≤ R.frames ∧ 8 + (maxL + 11) + (xRm d mc ms).locals ≤ R.locals) : CallW R s args own y.cls index y bytes maxL ret (xws y bytes maxL ret) (xRm d mc ms) mc ms n :=
  ⟨callB_of n hts (xgood f.2.2.2.1) rfl rfl rfl (hts _ f.2.2.1) (hts _ hl) f.2.2.2.2 hR, hts _ f.1, hts _ f.2.1⟩
theorem xcwS {R : Room} {s : State} {args : Array Value} {own : String} {index maxL d mc ms : Nat} {y : MethodName} {bytes : ByteArray} {ret : Option FieldType} (n : Nat) (hts : ∀ w ∈ xAll, w.before args s = true) (f : xFs y bytes maxL ret n) (hl : .methodLink own index y ∈ xAll) (hR : (xRm d mc ms).frames + 1 ≤ R.frames ∧ 8 + (maxL + 11) + (xRm d mc ms).locals ≤ R.locals) : CallB R s args own index y bytes maxL ret (xws y bytes maxL ret) (xRm d mc ms) mc ms n ∧ (Cond.static y).before args s = true :=
  ⟨callB_of n hts (xgood f.2.2.1) rfl rfl rfl (hts _ f.2.1) (hts _ hl) f.2.2.2 hR, hts _ f.1⟩
theorem xcnS {R : Room} {s : State} {args : Array Value} {own host : String} {index maxL d mc ms : Nat} {y : MethodName} {bytes : ByteArray} {ret : Option FieldType} (n : Nat) (hts : ∀ w ∈ xAll, w.before args s = true) (f : xFs y bytes maxL ret n) (hR : (xRm d mc ms).frames + 1 ≤ R.frames ∧ 8 + (maxL + 11) + (xRm d mc ms).locals ≤ R.locals) (hl : va_Nw (.methodLinkNest own index y host) s) : va_CN R s args own index y host bytes maxL ret (xws y bytes maxL ret) (xRm d mc ms) mc ms n ∧ (Cond.static y).before args s = true ∧ True :=
  ⟨va_cnB n hts (xgood f.2.2.1) rfl rfl rfl hl (hts _ f.2.1) f.2.2.2 hR, hts _ f.1, trivial⟩
theorem xc_iSN {p : Program} {l : Launch} {e : Env} {R : Room} {s : State} {m : MethodId} {args : Array Value} {below : List Frame} {meth : Method} {c : Code} {H : Heap} {locs : List Loc} {cells slots : Nat} {Q : State → Prop} {cc : ByteArray} {pc : Nat} {ls : Array Slot} {rest st : List Value} {D : va_G} {ca : Nat → ClassId} {z : Nat} {G : xG} {X : va_W} {μ μ1 : xM} {ad av : Nat → Nat} {r : Int32}
    {y : MethodName} {bytes : ByteArray} {maxL nL n index d : Nat} {ws Ts : List Cond} {own host : String} {As : List Value} (S : CallFix p m c cc nL s args Ts own) (hM : xMi l y ws d D ca z G X ad av As μ r μ1) {rt : FieldType} (hcw : va_Nw (.methodLinkNest own index y host) s → va_CN R s args own index y host bytes maxL (some rt) ws (xRm d 0 0) 0 0 n ∧ (Cond.static y).before args s = true ∧ True) (hl : va_Nw (.methodLinkNest own index y host) s) (hR : xRep D ca G X μ H) (hK : va_K D vwCl (xT ca) s) (hE : xEv z ad av s s.heap) (hS : va_S (fun q => z ≤ q) s.heap H locs)
    (hn : As.length = n) (hsize : ls.size = nL) (hst : st = As.reverse ++ rest) (hW : (rest.map fun v => v.category).sum ≤ 8) (hdg : decode cc pc = .ok (.invokestatic index, 3)) (hf : cells ≤ R.cells ∧ slots ≤ R.slots)
    (kk : ∀ (H1 : Heap) (locs1 : List Loc), xRep D ca G X μ1 H1 → va_S (fun q => z ≤ q) s.heap H1 locs1 → W p l e R s m args below meth c H1 locs1 cells slots Q (F0 m (pc + 3) ls (.int r :: rest))) : W p l e R s m args below meth c H locs cells slots Q (F0 m pc ls st) := by
  refine va_calli (va_runSN (As := As) (rest := rest) S hM (hcw hl) ⟨xSt_blind, xSt_at hR hK hE hS⟩ rfl hn hsize hst (lv_room hW) hdg hf) hS (fun q _ h => h) (fun q h => h) (fun r1 u t H1 locs1 ht hvm hw hB hz1 hk1 hS1 => ?_)
  obtain ⟨hR1, -⟩ := hB
  rw [ht] at hR1
  subst hw
  exact kk H1 locs1 hR1 hS1
theorem xNest {z : Nat} {ad av : Nat → Nat} {s : State} {H : Heap} (hE : xEv z ad av s H) : va_Nw (.methodLinkNest RX1 47 yX7_isOwner RX7) s := hE.2.2.2.2.2.2.2.1 _ (List.mem_of_getElem? (i := 5) rfl)
-- words of the functions
def xfu : Nat := 4096
noncomputable def xk {α : Type} (P : Prop) (K : Option α) : Option α := @ite _ P (Classical.propDecidable P) K none
theorem xk_inv {α : Type} {P : Prop} {K : Option α} {v : α} (h : xk P K = some v) : P ∧ K = some v := by
  unfold xk at h
  by_cases hp : P
  · rw [if_pos hp] at h; exact ⟨hp, h⟩
  · rw [if_neg hp] at h; cases h
theorem xk_t {α : Type} {P : Prop} {K : Option α} (hp : P) : xk P K = K := by unfold xk; rw [if_pos hp]
def xb {α : Type} (o : Option (Int32 × xM)) (K : Int32 → xM → Option α) : Option α := match o with
  | some (r, μ) => K r μ
  | none => none
theorem xb_inv {α : Type} {o : Option (Int32 × xM)} {K : Int32 → xM → Option α} {v : α} (h : xb o K = some v) : ∃ r μ, o = some (r, μ) ∧ K r μ = some v := by
  match o, h with
  | some (r, μ), h => exact ⟨r, μ, rfl, h⟩
theorem xb_t {α : Type} {o : Option (Int32 × xM)} {K : Int32 → xM → Option α} {r : Int32} {μ : xM} (h : o = some (r, μ)) : xb o K = K r μ := by rw [h]; rfl
def xbv {α : Type} (o : Option xM) (K : xM → Option α) : Option α := match o with
  | some μ => K μ
  | none => none
theorem xbv_inv {α : Type} {o : Option xM} {K : xM → Option α} {v : α} (h : xbv o K = some v) : ∃ μ, o = some μ ∧ K μ = some v := by
  match o, h with
  | some μ, h => exact ⟨μ, rfl, h⟩
theorem xbv_t {α : Type} {o : Option xM} {K : xM → Option α} {μ : xM} (h : o = some μ) : xbv o K = K μ := by rw [h]; rfl
def xbt {α β : Type} (o : Option α) (K : α → Option β) : Option β := match o with
  | some q => K q
  | none => none
theorem xbt_inv {α β : Type} {o : Option α} {K : α → Option β} {v : β} (h : xbt o K = some v) : ∃ q, o = some q ∧ K q = some v := by
  match o, h with
  | some q, h => exact ⟨q, rfl, h⟩
theorem xbt_t {α β : Type} {o : Option α} {K : α → Option β} {q : α} (h : o = some q) : xbt o K = K q := by rw [h]; rfl
theorem xpos {c : Prop} [Decidable c] {α : Type} {A B o : α} (hc : c) (h : (if c then A else B) = o) : A = o := by rw [if_pos hc] at h; exact h
theorem xneg {c : Prop} [Decidable c] {α : Type} {A B o : α} (hc : ¬ c) (h : (if c then A else B) = o) : B = o := by rw [if_neg hc] at h; exact h
def xisC (v : Int32) : Prop := narrow .char (.int v) = .int v ∧ fits .char (.int v) = true
def xisZ (v : Int32) : Prop := narrow .boolean (.int v) = .int v ∧ fits .boolean (.int v) = true
theorem xinc {n : Int} {c x : Int32} (h : Int32.ofInt n = c) : x + Int32.ofInt n = x + c := by rw [h]
theorem xlt {i : Int32} {n : Nat} (h : vp_in i n) : i.toNatClampNeg < n := Nat.not_le.mp fun q => h (Or.inr q)
theorem xlitin {i : Int32} {k N : Nat} (h : i.toNatClampNeg = k) (h0 : ¬ i < 0) (hk : k < N) : vp_in i N := fun q => q.elim h0 (fun q => by omega)
theorem xne {x y : Int32} (h : ¬ x = y) : x.toInt ≠ y.toInt := fun e => h (Int32.toInt_inj.mp e)
theorem xlook (d : Int) (x : Int) : ∀ (ps : List (Int × Int)), (∀ q ∈ ps, q.1 ≠ x) → Op.lookupswitch.offset ps d x = d := by
  intro ps
  induction ps with
  | nil => intro _; rfl
  | cons q ps ih =>
    intro h
    have h1 := h q List.mem_cons_self
    have h2 := ih (fun r hr => h r (List.mem_cons_of_mem _ hr))
    obtain ⟨a, b⟩ := q
    simp only [Op.lookupswitch.offset] at h2 ⊢
    simp_all
-- the layout
def xI_Pledge (G : xG) (a : Nat) : Prop := G.1 a = 10
def xI_Order (G : xG) (a : Nat) : Prop := G.1 a = 9
def xI_Clerk (G : xG) (a : Nat) : Prop := G.1 a = 6
def xI_Refusal (G : xG) (a : Nat) : Prop := G.1 a = 11
def xI_Ints (n : Nat) (G : xG) (a : Nat) : Prop := G.1 a = 101 ∧ G.2.2 a = n
def xI_Chars (n : Nat) (G : xG) (a : Nat) : Prop := G.1 a = 102 ∧ G.2.2 a = n
def xI_Longs (n : Nat) (G : xG) (a : Nat) : Prop := G.1 a = 104 ∧ G.2.2 a = n
def xI_Pledges (G : xG) (a : Nat) : Prop := G.1 a = 113 ∧ G.2.2 a = 16 ∧ ∀ t, t < 16 → G.2.1 a t = some (a + 1 + t) ∧ xI_Pledge G (a + 1 + t)
def xI_Orders (G : xG) (a : Nat) : Prop := G.1 a = 112 ∧ G.2.2 a = 20 ∧ ∀ t, t < 20 → G.2.1 a t = some (a + 1 + t) ∧ xI_Order G (a + 1 + t)
def xI_Bank (G : xG) (b : Nat) : Prop := G.1 b = 5 ∧ (G.2.1 b 0 = some (b + 1) ∧ xI_Pledges G (b + 1)) ∧ (G.2.1 b 1 = some (b + 18) ∧ xI_Ints 6 G (b + 18)) ∧ (G.2.1 b 2 = some (b + 19) ∧ xI_Ints 6 G (b + 19))
def xI_Banks (G : xG) (a : Nat) : Prop := G.1 a = 111 ∧ G.2.2 a = 8 ∧ ∀ t, t < 8 → G.2.1 a t = some (a + 1 + 20 * t) ∧ xI_Bank G (a + 1 + 20 * t)
def xI_History (G : xG) (h : Nat) : Prop := G.1 h = 7 ∧ (G.2.1 h 0 = some (h + 1) ∧ xI_Banks G (h + 1))
def xI_Input (G : xG) (n : Nat) : Prop := G.1 n = 8 ∧ (G.2.1 n 0 = some (n + 1) ∧ xI_Chars 60 G (n + 1)) ∧ (G.2.1 n 1 = some (n + 2) ∧ xI_Orders G (n + 2))
def xI_Coat (G : xG) (x : Nat) : Prop := G.1 x = 12 ∧ (G.2.1 x 0 = some (x + 1) ∧ xI_Bank G (x + 1)) ∧ (G.2.1 x 1 = some (x + 21) ∧ xI_Bank G (x + 21)) ∧ (G.2.1 x 2 = some (x + 41) ∧ xI_Bank G (x + 41)) ∧ (G.2.1 x 4 = some (x + 61) ∧ xI_History G (x + 61)) ∧ (G.2.1 x 5 = some (x + 223) ∧ xI_Clerk G (x + 223)) ∧ (G.2.1 x 6 = some (x + 224) ∧ xI_Order G (x + 224)) ∧ (G.2.1 x 7 = some (x + 225) ∧ xI_Input G (x + 225)) ∧ (G.2.1 x 8 = some (x + 248) ∧ xI_Refusal G (x + 248)) ∧ (G.2.1 x 9 = some (x + 249) ∧ G.1 (x + 249) = 0)
def xI_Model (G : xG) (m : Nat) : Prop := G.1 m = 13 ∧ (G.2.1 m 0 = some (m + 1) ∧ xI_Ints 199 G (m + 1)) ∧ (G.2.1 m 1 = some (m + 2) ∧ xI_Ints 1592 G (m + 2)) ∧ (G.2.1 m 2 = some (m + 3) ∧ xI_Ints 199 G (m + 3)) ∧ (G.2.1 m 3 = some (m + 4) ∧ xI_Ints 199 G (m + 4)) ∧ (G.2.1 m 12 = some (m + 5) ∧ xI_Ints 60 G (m + 5)) ∧ (G.2.1 m 15 = some (m + 6) ∧ xI_Chars 32 G (m + 6)) ∧ (G.2.1 m 18 = some (m + 7) ∧ xI_Ints 124 G (m + 7))
section XROWK
variable {p : Program} {l : Launch} {e : Env} {R : Room} {s : State} {m : MethodId} {args : Array Value} {below : List Frame} {meth : Method} {c : Code} {H : Heap} {locs : List Loc} {cells slots : Nat} {Q : State → Prop}
variable {cc : ByteArray} {pc : Nat} {ls : Array Slot} {rest : List Value} {D : va_G} {ca : Nat → ClassId} {z a : Nat} {G : xG} {X : va_W} {μ : xM} {H0 : Heap}
theorem xr_ialdk (k : Nat) (hexec : p.tables.exec = Jvm.exec) (hb : c.code = cc) (hK : va_K D vwCl (xT ca) s) (hR : xRep D ca G X μ H) (hk0 : G.1 a = 101) {n : Nat} (hn : G.2.2 a = n) {i : Int32} (hk : i.toNatClampNeg = k) (hin : vp_in i n) (hdg : decode cc pc = .ok (.iaload, 1))
    (kk : W p l e R s m args below meth c H locs cells slots Q (F0 m (pc + 1) ls (.int (μ a k) :: rest))) : W p l e R s m args below meth c H locs cells slots Q (F0 m pc ls (.int i :: .ref a :: rest)) := by
  subst hk
  exact xr_iald hexec hb hK hR hk0 hn hin hdg kk
theorem xr_caldk (k : Nat) (hexec : p.tables.exec = Jvm.exec) (hb : c.code = cc) (hK : va_K D vwCl (xT ca) s) (hR : xRep D ca G X μ H) (hk0 : G.1 a = 102) {n : Nat} (hn : G.2.2 a = n) {i : Int32} (hk : i.toNatClampNeg = k) (hin : vp_in i n) (hdg : decode cc pc = .ok (.caload, 1))
    (kk : W p l e R s m args below meth c H locs cells slots Q (F0 m (pc + 1) ls (.int (μ a k) :: rest))) : W p l e R s m args below meth c H locs cells slots Q (F0 m pc ls (.int i :: .ref a :: rest)) := by
  subst hk
  exact xr_cald hexec hb hK hR hk0 hn hin hdg kk
theorem xr_iastk (k : Nat) (hexec : p.tables.exec = Jvm.exec) (hb : c.code = cc) (hK : va_K D vwCl (xT ca) s) (hR : xRep D ca G X μ H) (hFx : xFix z G X) (hS : va_S (fun q => z ≤ q) H0 H locs) (hk0 : G.1 a = 101) {n : Nat} (hn : G.2.2 a = n) {i x : Int32} (hk : i.toNatClampNeg = k) (hin : vp_in i n) (hdg : decode cc pc = .ok (.iastore, 1))
    (kk : ∀ (H1 : Heap) (locs1 : List Loc), xRep D ca G X (xw μ a k x) H1 → va_S (fun q => z ≤ q) H0 H1 locs1 → W p l e R s m args below meth c H1 locs1 cells slots Q (F0 m (pc + 1) ls rest)) : W p l e R s m args below meth c H locs cells slots Q (F0 m pc ls (.int x :: .int i :: .ref a :: rest)) := by
  subst hk
  exact xr_iast hexec hb hK hR hFx hS hk0 hn hin hdg kk
theorem xr_castk (k : Nat) (hexec : p.tables.exec = Jvm.exec) (hb : c.code = cc) (hK : va_K D vwCl (xT ca) s) (hR : xRep D ca G X μ H) (hFx : xFix z G X) (hS : va_S (fun q => z ≤ q) H0 H locs) (hk0 : G.1 a = 102) {n : Nat} (hn : G.2.2 a = n) {i x : Int32} (hk : i.toNatClampNeg = k) (hin : vp_in i n) (hdg : decode cc pc = .ok (.castore, 1))
    (kk : ∀ (H1 : Heap) (locs1 : List Loc), xRep D ca G X (xw μ a k (vp_nar .char x)) H1 → va_S (fun q => z ≤ q) H0 H1 locs1 → W p l e R s m args below meth c H1 locs1 cells slots Q (F0 m (pc + 1) ls rest)) : W p l e R s m args below meth c H locs cells slots Q (F0 m pc ls (.int x :: .int i :: .ref a :: rest)) := by
  subst hk
  exact xr_cast hexec hb hK hR hFx hS hk0 hn hin hdg kk
end XROWK
theorem inX0 : ∀ w ∈ u_ws RX0 TX0 8, w ∈ xAll := fun w h => xin ((by decide +kernel : ∀ w ∈ u_ws RX0 TX0 8, w ∈ lw_tbl) w h) ((by decide +kernel : ∀ w ∈ u_ws RX0 TX0 8, goodWord w = true) w h)
theorem inX1 : ∀ w ∈ u_ws RX1 TX1 1, w ∈ xAll := fun w h => xin ((by decide +kernel : ∀ w ∈ u_ws RX1 TX1 1, w ∈ lw_tbl) w h) ((by decide +kernel : ∀ w ∈ u_ws RX1 TX1 1, goodWord w = true) w h)
theorem inX2 : ∀ w ∈ u_ws RX2 TX2 3, w ∈ xAll := fun w h => xin ((by decide +kernel : ∀ w ∈ u_ws RX2 TX2 3, w ∈ lw_tbl) w h) ((by decide +kernel : ∀ w ∈ u_ws RX2 TX2 3, goodWord w = true) w h)
theorem inX3 : ∀ w ∈ u_ws RX3 TX3 5, w ∈ xAll := fun w h => xin ((by decide +kernel : ∀ w ∈ u_ws RX3 TX3 5, w ∈ lw_tbl) w h) ((by decide +kernel : ∀ w ∈ u_ws RX3 TX3 5, goodWord w = true) w h)
theorem inX4 : ∀ w ∈ u_ws RX4 TX4 5, w ∈ xAll := fun w h => xin ((by decide +kernel : ∀ w ∈ u_ws RX4 TX4 5, w ∈ lw_tbl) w h) ((by decide +kernel : ∀ w ∈ u_ws RX4 TX4 5, goodWord w = true) w h)
theorem inX5 : ∀ w ∈ u_ws RX5 TX5 12, w ∈ xAll := fun w h => xin ((by decide +kernel : ∀ w ∈ u_ws RX5 TX5 12, w ∈ lw_tbl) w h) ((by decide +kernel : ∀ w ∈ u_ws RX5 TX5 12, goodWord w = true) w h)
theorem inX6 : ∀ w ∈ u_ws RX6 TX6 4, w ∈ xAll := fun w h => xin ((by decide +kernel : ∀ w ∈ u_ws RX6 TX6 4, w ∈ lw_tbl) w h) ((by decide +kernel : ∀ w ∈ u_ws RX6 TX6 4, goodWord w = true) w h)
theorem inX7 : ∀ w ∈ u_ws RX7 TX7 11, w ∈ xAll := fun w h => xin ((by decide +kernel : ∀ w ∈ u_ws RX7 TX7 11, w ∈ lw_tbl) w h) ((by decide +kernel : ∀ w ∈ u_ws RX7 TX7 11, goodWord w = true) w h)
theorem inX8 : ∀ w ∈ u_ws RX8 TX8 20, w ∈ xAll := fun w h => xin ((by decide +kernel : ∀ w ∈ u_ws RX8 TX8 20, w ∈ lw_tbl) w h) ((by decide +kernel : ∀ w ∈ u_ws RX8 TX8 20, goodWord w = true) w h)
