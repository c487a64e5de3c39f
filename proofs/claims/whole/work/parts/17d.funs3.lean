/-! the methods as functions over the flat store: printed by wip/whole/gen out of the bytecode -/
noncomputable def fL_pledge (h0 : Nat) (p1 : Int32) (p2 : Int32) (p3 : Int32) (h4 : Nat) (μ : xM) : Option (Int32 × xM) :=
  xch (fX7_pledge h0 p1 p2 p3 μ) (fun r1 m1 => some ((0 : Int32), (xw m1 h4 0 r1))) (fun e1 m1 => if e1 = 1 then (some ((1 : Int32), m1)) else (if e1 = 2 then (some ((2 : Int32), m1)) else (if e1 = 3 then (some ((3 : Int32), m1)) else (none))))
noncomputable def fL_rate (h0 : Nat) (p1 : Int32) (h2 : Nat) (μ : xM) : Option (Int32 × xM) :=
  xch (fX7_rate h0 p1 μ) (fun r1 m1 => some ((0 : Int32), (xw m1 h2 0 r1))) (fun e1 m1 => if e1 = 2 then (some ((1 : Int32), m1)) else (if e1 = 3 then (some ((2 : Int32), m1)) else (none)))
noncomputable def fL_fee (h0 : Nat) (p1 : Int32) (h2 : Nat) (μ : xM) : Option (Int32 × xM) :=
  xch (fX7_fee h0 p1 μ) (fun r1 m1 => some ((0 : Int32), (xw m1 h2 0 r1))) (fun e1 m1 => if e1 = 2 then (some ((1 : Int32), m1)) else (if e1 = 3 then (some ((2 : Int32), m1)) else (none)))
noncomputable def fL_pass (h0 : Nat) (p1 : Int32) (h2 : Nat) (μ : xM) : Option (Int32 × xM) :=
  xch (fX7_pass h0 p1 μ) (fun r1 m1 => some ((0 : Int32), (xw m1 h2 0 r1))) (fun e1 m1 => if e1 = 2 then (some ((1 : Int32), m1)) else (none))
noncomputable def fL_redeem (h0 : Nat) (p1 : Int32) (h2 : Nat) (μ : xM) : Option (Int32 × xM) :=
  xch (fX7_redeem h0 p1 μ) (fun r1 m1 => some ((0 : Int32), (xw m1 h2 0 r1))) (fun e1 m1 => if e1 = 4 then (some ((1 : Int32), m1)) else (if e1 = 3 then (some ((2 : Int32), m1)) else (none)))
noncomputable def fL_pay (h0 : Nat) (p1 : Int32) (p2 : Int32) (h3 : Nat) (μ : xM) : Option (Int32 × xM) :=
  xch (fX7_pay h0 p1 p2 μ) (fun r1 m1 => some ((0 : Int32), (xw m1 h3 0 r1))) (fun e1 m1 => if e1 = 4 then (some ((1 : Int32), m1)) else (if e1 = 2 then (some ((2 : Int32), m1)) else (if e1 = 3 then (some ((3 : Int32), m1)) else (none))))
noncomputable def fL_renew (h0 : Nat) (p1 : Int32) (h2 : Nat) (μ : xM) : Option (Int32 × xM) :=
  xch (fX7_renew h0 p1 μ) (fun r1 m1 => some ((0 : Int32), (xw m1 h2 0 r1))) (fun e1 m1 => if e1 = 4 then (some ((1 : Int32), m1)) else (if e1 = 3 then (some ((2 : Int32), m1)) else (none)))
noncomputable def fL_pledgeOf (h0 : Nat) (p1 : Int32) (p2 : Int32) (h3 : Nat) (μ : xM) : Option (Int32 × xM) :=
  xch (fX7_pledgeOf h0 p1 p2 μ) (fun r1 m1 => some ((0 : Int32), (xw m1 h3 0 r1))) (fun e1 m1 => if e1 = 4 then (some ((1 : Int32), m1)) else (if e1 = 2 then (some ((2 : Int32), m1)) else (none)))
noncomputable def fL_sell (h0 : Nat) (p1 : Int32) (p2 : Int32) (h3 : Nat) (μ : xM) : Option (Int32 × xM) :=
  xch (fX7_sell h0 p1 p2 μ) (fun r1 m1 => some ((0 : Int32), (xw m1 h3 0 r1))) (fun e1 m1 => if e1 = 4 then (some ((1 : Int32), m1)) else (if e1 = 2 then (some ((2 : Int32), m1)) else (if e1 = 3 then (some ((3 : Int32), m1)) else (none))))
noncomputable def fL_claim (h0 : Nat) (p1 : Int32) (h2 : Nat) (μ : xM) : Option (Int32 × xM) :=
  xch (fX7_claim h0 p1 μ) (fun r1 m1 => some ((0 : Int32), (xw m1 h2 0 r1))) (fun e1 m1 => if e1 = 1 then (some ((1 : Int32), m1)) else (if e1 = 3 then (some ((2 : Int32), m1)) else (none)))
noncomputable def fL_lotAt (h0 : Nat) (p1 : Int32) (h2 : Nat) (μ : xM) : Option (Int32 × xM) :=
  xch (fX7_lotAt h0 p1 μ) (fun r1 m1 => some ((0 : Int32), (xw m1 h2 0 r1))) (fun e1 m1 => if e1 = 4 then (some ((1 : Int32), m1)) else (none))
noncomputable def fL_ranked (h0 : Nat) (p1 : Int32) (h2 : Nat) (μ : xM) : Option (Int32 × xM) :=
  xch (fX7_ranked h0 p1 μ) (fun r1 m1 => some ((0 : Int32), (xw m1 h2 0 r1))) (fun e1 m1 => if e1 = 4 then (some ((1 : Int32), m1)) else (none))
noncomputable def fL_quote (h0 : Nat) (p1 : Int32) (p2 : Int32) (h3 : Nat) (μ : xM) : Option (Int32 × xM) :=
  xch (fX7_quote h0 p1 p2 μ) (fun r1 m1 => some ((0 : Int32), (xw m1 h3 0 r1))) (fun e1 m1 => if e1 = 4 then (some ((1 : Int32), m1)) else (if e1 = 2 then (some ((2 : Int32), m1)) else (if e1 = 5 then (some ((3 : Int32), m1)) else (none))))
noncomputable def fL_quoteAgain (h0 : Nat) (p1 : Int32) (p2 : Int32) (h3 : Nat) (μ : xM) : Option (Int32 × xM) :=
  xch (fX7_quoteAgain h0 p1 p2 μ) (fun r1 m1 => some ((0 : Int32), (xw m1 h3 0 r1))) (fun e1 m1 => if e1 = 4 then (some ((1 : Int32), m1)) else (if e1 = 2 then (some ((2 : Int32), m1)) else (if e1 = 5 then (some ((3 : Int32), m1)) else (none))))
noncomputable def fL_willBeLots (h0 : Nat) (p1 : Int32) (h2 : Nat) (μ : xM) : Option (Int32 × xM) :=
  xch (fX7_willBeLots h0 p1 μ) (fun r1 m1 => some ((0 : Int32), (xw m1 h2 0 r1))) (fun e1 m1 => if e1 = 2 then (some ((1 : Int32), m1)) else (none))
noncomputable def fL_willBeLotsAgain (h0 : Nat) (p1 : Int32) (h2 : Nat) (μ : xM) : Option (Int32 × xM) :=
  xch (fX7_willBeLotsAgain h0 p1 μ) (fun r1 m1 => some ((0 : Int32), (xw m1 h2 0 r1))) (fun e1 m1 => if e1 = 2 then (some ((1 : Int32), m1)) else (none))
noncomputable def fL_willReserve (h0 : Nat) (p1 : Int32) (p2 : Int32) (h3 : Nat) (μ : xM) : Option (Int32 × xM) :=
  xch (fX7_willReserve h0 p1 p2 μ) (fun r1 m1 => some ((0 : Int32), (xw m1 h3 0 r1))) (fun e1 m1 => if e1 = 4 then (some ((1 : Int32), m1)) else (if e1 = 2 then (some ((2 : Int32), m1)) else (if e1 = 5 then (some ((3 : Int32), m1)) else (none))))
noncomputable def fL_ownerOf (h0 : Nat) (p1 : Int32) (p2 : Int32) (h3 : Nat) (μ : xM) : Option (Int32 × xM) :=
  xch (fX7_ownerOf h0 p1 p2 μ) (fun r1 m1 => some ((0 : Int32), (xw m1 h3 0 r1))) (fun e1 m1 => if e1 = 1 then (some ((1 : Int32), m1)) else (if e1 = 2 then (some ((2 : Int32), m1)) else (none)))
noncomputable def fL_append (h0 : Nat) (p1 : Int32) (h2 : Nat) (μ : xM) : Option (Int32 × xM) :=
  xch (fX7_append h0 p1 μ) (fun r1 m1 => some ((0 : Int32), (xw m1 h2 0 r1))) (fun e1 m1 => if e1 = 5 then (some ((1 : Int32), m1)) else (none))
noncomputable def fL_refusal (h0 : Nat) (p1 : Int32) (p2 : Int32) (h3 : Nat) (μ : xM) : Option (Int32 × xM) :=
  xch (fX7_refusal h0 p1 p2 μ) (fun r1 m1 => some ((0 : Int32), (xw m1 h3 0 r1))) (fun e1 m1 => if e1 = 4 then (some ((1 : Int32), m1)) else (none))
noncomputable def fL_account (h0 : Nat) (p1 : Int32) (h2 : Nat) (μ : xM) : Option (Int32 × xM) :=
  xch (fX7_account h0 p1 μ) (fun r1 m1 => some ((0 : Int32), (xw m1 h2 0 r1))) (fun e1 m1 => if e1 = 2 then (some ((1 : Int32), m1)) else (none))
noncomputable def fL_undo (h0 : Nat) (h1 : Nat) (μ : xM) : Option (Int32 × xM) :=
  xch (fX7_undo h0 μ) (fun r1 m1 => some ((0 : Int32), (xw m1 h1 0 r1))) (fun e1 m1 => if e1 = 5 then (some ((1 : Int32), m1)) else (none))
noncomputable def fL_restore (h0 : Nat) (h1 : Nat) (μ : xM) : Option (Int32 × xM) :=
  xch (fX7_restore h0 μ) (fun r1 m1 => some ((0 : Int32), (xw m1 h1 0 r1))) (fun e1 m1 => if e1 = 5 then (some ((1 : Int32), m1)) else (none))
