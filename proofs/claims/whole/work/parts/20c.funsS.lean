/-! the methods as functions over the flat store: printed by wip/whole/gen out of the bytecode -/
noncomputable def fJ1_canEncode_fc78d (p0 : Int32) (μ : xM) : Option (Int32 × xM) :=
  if (255 : Int32) < p0 then (some ((0 : Int32), μ)) else (some ((1 : Int32), μ))
noncomputable def lJ6_stringSize_0f7a4_16 (p0 : Int32) : Nat → Int32 → Int32 → Int32 → Int32 → xM → Option (Int32 × xM)
  | 0, _, _, _, _, _ => none
  | n + 1, x0, x1, x2, x3, μ => if (10 : Int32) ≤ x3 then (some (((10 : Int32) + x1), μ)) else (if x0 ≤ x2 then (lJ6_stringSize_0f7a4_16 p0 n x0 x1 (((10 : Int32) * x2)) ((x3 + (1 : Int32))) μ) else (some ((x3 + x1), μ)))
noncomputable def fJ6_stringSize_0f7a4 (p0 : Int32) (μ : xM) : Option (Int32 × xM) :=
  if p0 < 0 then (lJ6_stringSize_0f7a4_16 p0 xfu p0 ((1 : Int32)) ((-10 : Int32)) ((1 : Int32)) μ) else (lJ6_stringSize_0f7a4_16 p0 xfu ((-p0)) ((0 : Int32)) ((-10 : Int32)) ((1 : Int32)) μ)
noncomputable def fJ8_newLength_cabcc (p0 : Int32) (p1 : Int32) (p2 : Int32) (μ : xM) : Option (Int32 × xM) :=
  if (p0 + (if p1 < p2 then p2 else p1)) ≤ (0 : Int32) then (none) else (if (2147483639 : Int32) < (p0 + (if p1 < p2 then p2 else p1)) then (none) else (some ((p0 + (if p1 < p2 then p2 else p1)), μ)))
