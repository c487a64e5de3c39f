/-! the methods as functions over the flat store: printed by wip/whole/gen out of the bytecode -/
noncomputable def fJ0_isEmpty_aae02 (h0 : Nat) (μ : xM) : Option (Int32 × xM) :=
  if (Int32.ofNat (xsL.getD h0 0)) = 0 then (some ((1 : Int32), μ)) else (some ((0 : Int32), μ))
noncomputable def fJ0_coder_7d493 (h0 : Nat) (μ : xM) : Option (Int32 × xM) :=
  if (1 : Int32) = 0 then (some ((1 : Int32), μ)) else (some ((0 : Int32), μ))
noncomputable def fJ0_length_8abf5 (h0 : Nat) (μ : xM) : Option (Int32 × xM) :=
  xb (fJ0_coder_7d493 h0 μ) (fun r1 m1 => some (((Int32.ofNat (xsL.getD h0 0)) >>> (r1 &&& 31)), m1))
noncomputable def fJ0_isLatin1_aae02 (h0 : Nat) (μ : xM) : Option (Int32 × xM) :=
  if (1 : Int32) = 0 then (some ((0 : Int32), μ)) else (if (0 : Int32) = 0 then (some ((1 : Int32), μ)) else (some ((0 : Int32), μ)))
noncomputable def fJ1_charAt_3b067 (h0 : Nat) (p1 : Int32) (μ : xM) : Option (Int32 × xM) :=
  xbv (fJ0_checkIndex_df160 p1 ((Int32.ofNat (xsL.getD h0 0))) μ) (fun m1 => xk (vp_in p1 (xsL.getD h0 0)) (xk (xisC ((((((xsB.getD h0 []).getD (Int32.toNatClampNeg p1) 0) &&& (255 : Int32))).toUInt32 % 65536).toInt32)) (some ((((((xsB.getD h0 []).getD (Int32.toNatClampNeg p1) 0) &&& (255 : Int32))).toUInt32 % 65536).toInt32, m1))))
noncomputable def fJ0_charAt_5068e (h0 : Nat) (p1 : Int32) (μ : xM) : Option (Int32 × xM) :=
  xb (fJ0_isLatin1_aae02 h0 μ) (fun r1 m1 => if r1 = 0 then (none) else (xb (fJ1_charAt_3b067 h0 p1 m1) (fun r3 m3 => xk (xisC r3) (some (r3, m3)))))
noncomputable def fX3_shapeOf (p0 : Int32) (μ : xM) : Option Nat :=
  if p0 = (99 : Int32) then (some 16) else (if p0 = (110 : Int32) then (some 13) else (if p0 = (112 : Int32) then (some 12) else (if p0 = (114 : Int32) then (some 13) else (if p0 = (115 : Int32) then (some 15) else (if p0 = (119 : Int32) then (some 13) else (if p0 = (121 : Int32) then (some 14) else (some 17)))))))
noncomputable def lX3_readOrder_55 (h0 : Nat) (h1 : Nat) : Nat → Int32 → Nat → Int32 → xM → Option (Int32 × xM)
  | 0, _, _, _, _ => none
  | n + 1, x2, a3, x4, μ => xb (fJ0_length_8abf5 a3 μ) (fun r7 m7 => if r7 ≤ x4 then (some ((1 : Int32), m7)) else (xb (fJ0_charAt_5068e a3 x4 m7) (fun r9 m9 => xb (fX3_readPart h0 h1 r9 m9) (fun r10 m10 => if r10 = 0 then (some ((0 : Int32), m10)) else (lX3_readOrder_55 h0 h1 n x2 a3 ((x4 + (1 : Int32))) m10)))))
noncomputable def fX3_readOrder (h0 : Nat) (h1 : Nat) (μ : xM) : Option (Int32 × xM) :=
  if (μ h0 4) < (μ h0 2) then (xk (vp_in ((μ h0 4)) 60) (xbt (fX3_shapeOf ((μ ((h0 + 1)) (Int32.toNatClampNeg ((μ h0 4))))) μ) (fun i3 => xb (fJ0_isEmpty_aae02 i3 μ) (fun r4 m4 => if r4 = 0 then (xbv (fX4_begin h1 ((μ ((h0 + 1)) (Int32.toNatClampNeg ((μ h0 4))))) ((xw m4 h0 4 ((m4 h0 4) + (1 : Int32))))) (fun m6 => lX3_readOrder_55 h0 h1 xfu ((μ ((h0 + 1)) (Int32.toNatClampNeg ((μ h0 4))))) i3 ((0 : Int32)) m6)) else (some ((0 : Int32), m4)))))) else (some ((0 : Int32), μ))
noncomputable def lX3_readOrders_12 (h0 : Nat) : Nat → Int32 → xM → Option (Int32 × xM)
  | 0, _, _ => none
  | n + 1, x1, μ => if (20 : Int32) ≤ x1 then (some ((μ h0 4), μ)) else (xk (vp_in x1 20) (xb (fX3_readOrder h0 (((h0 + 2) + 1 + (Int32.toNatClampNeg x1))) μ) (fun r3 m3 => if r3 = 0 then (some ((m3 h0 4), m3)) else (if (((xw m3 h0 3 ((m3 h0 3) + (1 : Int32)))) h0 4) = (((xw m3 h0 3 ((m3 h0 3) + (1 : Int32)))) h0 2) then (some ((-1 : Int32), (xw m3 h0 3 ((m3 h0 3) + (1 : Int32))))) else (xb (fX3_readSign h0 ((59 : Int32)) ((xw m3 h0 3 ((m3 h0 3) + (1 : Int32))))) (fun r6 m6 => if r6 = 0 then (some ((m6 h0 4), m6)) else (lX3_readOrders_12 h0 n ((x1 + (1 : Int32))) m6)))))))
noncomputable def fX3_readOrders (h0 : Nat) (μ : xM) : Option (Int32 × xM) :=
  lX3_readOrders_12 h0 xfu ((0 : Int32)) ((xw (xw μ h0 3 (0 : Int32)) h0 4 (0 : Int32)))
