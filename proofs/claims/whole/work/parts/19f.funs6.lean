/-! the methods as functions over the flat store: printed by wip/whole/gen out of the bytecode -/
noncomputable def fX7_run (h0 : Nat) (μ : xM) : Option (xO × xM) :=
  xb (fX3_readOrders ((h0 + 225)) μ) (fun r1 m1 => xbv (fX3_empty ((h0 + 225)) ((xw m1 h0 10 r1))) (fun m2 => if (m2 h0 10) = (-1 : Int32) then (xb (fX7_tryOrders h0 m2) (fun r4 m4 => if r4 = (-1 : Int32) then (xbv (fX2_keep ((h0 + 61)) ((h0 + 1)) m4) (fun m6 => xbv (fX0_copyFrom ((h0 + 1)) ((h0 + 41)) m6) (fun m7 => some ((0, (m7 ((h0 + 225)) 3)), m7)))) else (some ((3, 0), m4)))) else (some ((2, 0), m2))))
noncomputable def fL_run (h0 : Nat) (h1 : Nat) (μ : xM) : Option (Int32 × xM) :=
  xch (fX7_run h0 μ) (fun r1 m1 => some ((0 : Int32), (xw m1 h1 0 r1))) (fun e1 m1 => if e1 = 2 then (some ((1 : Int32), m1)) else (if e1 = 3 then (some ((2 : Int32), m1)) else (none)))
noncomputable def gL_23 (x md out : Nat) (s1 s2 s3 : Int32) (μ : xM) : Option xM :=
  xb (fL_run x out μ) (fun r1 m1 => xb (fX8_run md m1) (fun r2 m2 => xb (fX8_thrown md m2) (fun r3 m3 => if r3 = r1 then (if r1 = 0 then (if lg_cmp ((m3 out 0)).toInt64 r2.toInt64 = 0 then (some m3) else (none)) else (some m3)) else (none))))
