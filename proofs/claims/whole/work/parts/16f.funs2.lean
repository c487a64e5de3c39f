/-! the methods as functions over the flat store: printed by wip/whole/gen out of the bytecode -/
noncomputable def fX7_demandFine (h0 : Nat) (p1 : Int32) (μ : xM) : Option (xO × xM) :=
  if p1 = (-1 : Int32) then (some ((1, 0), μ)) else (if p1 = (-3 : Int32) then (some ((4, 0), μ)) else (if p1 = (-2 : Int32) then (some ((2, 0), μ)) else (if p1 = 0 then (some ((0, 0), μ)) else (xbv (fX6_keep ((h0 + 248)) p1 ((μ ((h0 + 223)) 0)) μ) (fun m5 => some ((3, 0), m5))))))
noncomputable def fX7_demandFound (p0 : Int32) (μ : xM) : Option (xO × xM) :=
  if p0 = (-1 : Int32) then (some ((4, 0), μ)) else (some ((0, p0), μ))
noncomputable def fX7_demandRange (p0 : Int32) (p1 : Int32) (p2 : Int32) (μ : xM) : Option (xO × xM) :=
  if p0 < p1 then (some ((2, 0), μ)) else (if p0 ≤ p2 then (some ((0, 0), μ)) else (some ((2, 0), μ)))
noncomputable def fX7_demandState (p0 : Int32) (μ : xM) : Option (xO × xM) :=
  if p0 = 0 then (some ((5, 0), μ)) else (some ((0, 0), μ))
noncomputable def fX7_demandTicket (h0 : Nat) (p1 : Int32) (μ : xM) : Option (xO × xM) :=
  xb (fX0_hasTicket ((h0 + 1)) p1 μ) (fun r1 m1 => if r1 = 0 then (some ((4, 0), m1)) else (some ((0, 0), m1)))
noncomputable def fX7_change (h0 : Nat) (p1 : Int32) (p2 : Int32) (p3 : Int32) (p4 : Int32) (μ : xM) : Option (xO × xM) :=
  xbv (fX4_begin ((h0 + 224)) p1 μ) (fun m1 => xbv (fX4_add ((h0 + 224)) p2 m1) (fun m2 => xbv (fX4_add ((h0 + 224)) p3 m2) (fun m3 => xbv (fX4_add ((h0 + 224)) p4 m3) (fun m4 => xb (fX1_examine ((h0 + 223)) ((h0 + 1)) ((h0 + 224)) m4) (fun r5 m5 => xcb (fX7_demandFine h0 r5 m5) (fun r6 m6 => xbv (fX2_keep ((h0 + 61)) ((h0 + 1)) m6) (fun m7 => xb (fX0_carryOut ((h0 + 1)) ((h0 + 224)) m7) (fun r8 m8 => some ((0, r8), m8)))))))))
noncomputable def fX7_pledge (h0 : Nat) (p1 : Int32) (p2 : Int32) (p3 : Int32) (μ : xM) : Option (xO × xM) :=
  xcb (fX7_change h0 ((112 : Int32)) p1 p2 p3 μ) (fun r1 m1 => some ((0, r1), m1))
noncomputable def fX7_rate (h0 : Nat) (p1 : Int32) (μ : xM) : Option (xO × xM) :=
  xcb (fX7_change h0 ((37 : Int32)) p1 ((0 : Int32)) ((0 : Int32)) μ) (fun r1 m1 => some ((0, r1), m1))
noncomputable def fX7_fee (h0 : Nat) (p1 : Int32) (μ : xM) : Option (xO × xM) :=
  xcb (fX7_change h0 ((102 : Int32)) p1 ((0 : Int32)) ((0 : Int32)) μ) (fun r1 m1 => some ((0, r1), m1))
noncomputable def fX7_pass (h0 : Nat) (p1 : Int32) (μ : xM) : Option (xO × xM) :=
  xcb (fX7_change h0 ((119 : Int32)) p1 ((0 : Int32)) ((0 : Int32)) μ) (fun r1 m1 => some ((0, r1), m1))
noncomputable def fX7_redeem (h0 : Nat) (p1 : Int32) (μ : xM) : Option (xO × xM) :=
  xcb (fX7_change h0 ((114 : Int32)) p1 ((0 : Int32)) ((0 : Int32)) μ) (fun r1 m1 => some ((0, r1), m1))
noncomputable def fX7_pay (h0 : Nat) (p1 : Int32) (p2 : Int32) (μ : xM) : Option (xO × xM) :=
  xcb (fX7_change h0 ((121 : Int32)) p1 p2 ((0 : Int32)) μ) (fun r1 m1 => some ((0, r1), m1))
noncomputable def fX7_renew (h0 : Nat) (p1 : Int32) (μ : xM) : Option (xO × xM) :=
  xcb (fX7_change h0 ((110 : Int32)) p1 ((0 : Int32)) ((0 : Int32)) μ) (fun r1 m1 => some ((0, r1), m1))
noncomputable def fX7_pledgeOf (h0 : Nat) (p1 : Int32) (p2 : Int32) (μ : xM) : Option (xO × xM) :=
  xcb (fX7_demandTicket h0 p1 μ) (fun r1 m1 => xcb (fX7_demandRange p2 ((0 : Int32)) ((8 : Int32)) m1) (fun r2 m2 => xk (vp_in p1 16) (xb (fX5_number ((((h0 + 1) + 1) + 1 + (Int32.toNatClampNeg p1))) p2 m2) (fun r4 m4 => some ((0, r4), m4)))))
noncomputable def fX7_sell (h0 : Nat) (p1 : Int32) (p2 : Int32) (μ : xM) : Option (xO × xM) :=
  xcb (fX7_change h0 ((115 : Int32)) p1 p2 ((0 : Int32)) μ) (fun r1 m1 => some ((0, r1), m1))
noncomputable def fX7_claim (h0 : Nat) (p1 : Int32) (μ : xM) : Option (xO × xM) :=
  xcb (fX7_change h0 ((99 : Int32)) p1 ((0 : Int32)) ((0 : Int32)) μ) (fun r1 m1 => some ((0, r1), m1))
noncomputable def fX7_lotAt (h0 : Nat) (p1 : Int32) (μ : xM) : Option (xO × xM) :=
  xb (fX0_lotInPlace ((h0 + 1)) p1 ((0 : Int32)) μ) (fun r1 m1 => xcb (fX7_demandFound r1 m1) (fun r2 m2 => some ((0, r2), m2)))
noncomputable def fX7_ranked (h0 : Nat) (p1 : Int32) (μ : xM) : Option (xO × xM) :=
  xb (fX0_lotInPlace ((h0 + 1)) p1 ((1 : Int32)) μ) (fun r1 m1 => xcb (fX7_demandFound r1 m1) (fun r2 m2 => some ((0, r2), m2)))
noncomputable def fX7_quote (h0 : Nat) (p1 : Int32) (p2 : Int32) (μ : xM) : Option (xO × xM) :=
  xcb (fX7_demandTicket h0 p1 μ) (fun r1 m1 => xcb (fX7_demandRange p2 ((0 : Int32)) ((20 : Int32)) m1) (fun r2 m2 => xk (vp_in p1 16) (xb (fX5_isRunningIn ((((h0 + 1) + 1) + 1 + (Int32.toNatClampNeg p1))) (((m2 ((h0 + 1)) 4) + p2)) m2) (fun r4 m4 => xcb (fX7_demandState r4 m4) (fun r5 m5 => xk (vp_in p1 16) (xb (fX5_costBehind ((((h0 + 1) + 1) + 1 + (Int32.toNatClampNeg p1))) p2 m5) (fun r7 m7 => some ((0, r7), m7))))))))
noncomputable def fX7_quoteAgain (h0 : Nat) (p1 : Int32) (p2 : Int32) (μ : xM) : Option (xO × xM) :=
  xcb (fX7_demandTicket h0 p1 μ) (fun r1 m1 => xcb (fX7_demandRange p2 ((0 : Int32)) ((20 : Int32)) m1) (fun r2 m2 => xk (vp_in p1 16) (xb (fX5_costWeekByWeek ((((h0 + 1) + 1) + 1 + (Int32.toNatClampNeg p1))) ((m2 ((h0 + 1)) 4)) p2 m2) (fun r4 m4 => if r4 = (-1 : Int32) then (xcb (fX7_demandState ((0 : Int32)) m4) (fun r6 m6 => some ((0, r4), m6))) else (xcb (fX7_demandState ((1 : Int32)) m4) (fun r7 m7 => some ((0, r4), m7)))))))
noncomputable def fX7_willBeLots (h0 : Nat) (p1 : Int32) (μ : xM) : Option (xO × xM) :=
  xcb (fX7_demandRange p1 ((0 : Int32)) ((20 : Int32)) μ) (fun r1 m1 => xb (fX0_lotsByTerms ((h0 + 1)) p1 m1) (fun r2 m2 => some ((0, r2), m2)))
noncomputable def fX7_willBeLotsAgain (h0 : Nat) (p1 : Int32) (μ : xM) : Option (xO × xM) :=
  xcb (fX7_demandRange p1 ((0 : Int32)) ((20 : Int32)) μ) (fun r1 m1 => xb (fX0_lotsWeekByWeek ((h0 + 1)) p1 m1) (fun r2 m2 => some ((0, r2), m2)))
noncomputable def fX7_willReserve (h0 : Nat) (p1 : Int32) (p2 : Int32) (μ : xM) : Option (xO × xM) :=
  xcb (fX7_demandTicket h0 p1 μ) (fun r1 m1 => xcb (fX7_demandRange p2 ((0 : Int32)) ((20 : Int32)) m1) (fun r2 m2 => xk (vp_in p1 16) (if (m2 ((((h0 + 1) + 1) + 1 + (Int32.toNatClampNeg p1))) 5) = (1 : Int32) then (xcb (fX7_demandState ((1 : Int32)) m2) (fun r8 m8 => xk (vp_in p1 16) (xb (fX5_reserveBehind ((((h0 + 1) + 1) + 1 + (Int32.toNatClampNeg p1))) p2 m8) (fun r10 m10 => some ((0, r10), m10))))) else (xcb (fX7_demandState ((0 : Int32)) m2) (fun r5 m5 => xk (vp_in p1 16) (xb (fX5_reserveBehind ((((h0 + 1) + 1) + 1 + (Int32.toNatClampNeg p1))) p2 m5) (fun r7 m7 => some ((0, r7), m7))))))))
noncomputable def fX7_ownerOf (h0 : Nat) (p1 : Int32) (p2 : Int32) (μ : xM) : Option (xO × xM) :=
  xb (fX7_isOwner p1 μ) (fun r1 m1 => if r1 = 0 then (some ((1, 0), m1)) else (xcb (fX7_demandRange p2 ((0 : Int32)) ((6 : Int32)) m1) (fun r3 m3 => if p2 = (0 : Int32) then (xb (fX0_countOf ((h0 + 1)) p1 ((0 : Int32)) m3) (fun r5 m5 => some ((0, r5), m5))) else (if p2 = (1 : Int32) then (xb (fX0_owedBy ((h0 + 1)) p1 m3) (fun r7 m7 => some ((0, r7), m7))) else (if p2 = (2 : Int32) then (xb (fX0_countOf ((h0 + 1)) p1 ((1 : Int32)) m3) (fun r9 m9 => some ((0, r9), m9))) else (if p2 = (3 : Int32) then (xb (fX0_countOf ((h0 + 1)) p1 ((2 : Int32)) m3) (fun r11 m11 => some ((0, r11), m11))) else (if p2 = (4 : Int32) then (xb (fX0_countOf ((h0 + 1)) p1 ((3 : Int32)) m3) (fun r13 m13 => some ((0, r13), m13))) else (if p2 = (5 : Int32) then (xk (vp_in p1 6) (some ((0, (m3 (((h0 + 1) + 18)) (Int32.toNatClampNeg p1))), m3))) else (xk (vp_in p1 6) (some ((0, (m3 (((h0 + 1) + 19)) (Int32.toNatClampNeg p1))), m3)))))))))))
noncomputable def fX7_cash (h0 : Nat) (p1 : Int32) (μ : xM) : Option (Int32 × xM) :=
  if p1 = 0 then (some ((μ ((h0 + 1)) 7), μ)) else (xb (fX0_cashFromAccounts ((h0 + 1)) μ) (fun r2 m2 => some (r2, m2)))
noncomputable def fX7_isWell (h0 : Nat) (μ : xM) : Option (Int32 × xM) :=
  xb (fX0_cashFromAccounts ((h0 + 1)) μ) (fun r1 m1 => if (μ ((h0 + 1)) 7) = r1 then (xb (fX0_isCostTheSame ((h0 + 1)) ((2 : Int32)) m1) (fun r3 m3 => if r3 = 0 then (some ((0 : Int32), m3)) else (xb (fX0_lotsByTerms ((h0 + 1)) ((20 : Int32)) m3) (fun r5 m5 => xb (fX0_lotsWeekByWeek ((h0 + 1)) ((20 : Int32)) m5) (fun r6 m6 => if r5 = r6 then (some ((1 : Int32), m6)) else (some ((0 : Int32), m6))))))) else (some ((0 : Int32), m1)))
noncomputable def fX7_append (h0 : Nat) (p1 : Int32) (μ : xM) : Option (xO × xM) :=
  xb (fX3_take ((h0 + 225)) p1 μ) (fun r1 m1 => xcb (fX7_demandState r1 m1) (fun r2 m2 => some ((0, (m2 ((h0 + 225)) 2)), m2)))
noncomputable def fX7_errorPosition (h0 : Nat) (μ : xM) : Option (Int32 × xM) :=
  some ((μ h0 10), μ)
noncomputable def fX7_refusal (h0 : Nat) (p1 : Int32) (p2 : Int32) (μ : xM) : Option (xO × xM) :=
  if (μ ((h0 + 248)) 0) = 0 then (some ((4, 0), μ)) else (if p1 = 0 then (if p1 = 0 then (if p2 = 0 then (some ((0, (μ ((h0 + 248)) 0)), μ)) else (some ((0, (μ ((h0 + 248)) 1)), μ))) else (if p2 = 0 then (some ((0, (μ ((h0 + 248)) 2)), μ)) else (some ((0, (μ ((h0 + 248)) 3)), μ)))) else (if (μ ((h0 + 248)) 0) = (11 : Int32) then (if p1 = 0 then (if p2 = 0 then (some ((0, (μ ((h0 + 248)) 0)), μ)) else (some ((0, (μ ((h0 + 248)) 1)), μ))) else (if p2 = 0 then (some ((0, (μ ((h0 + 248)) 2)), μ)) else (some ((0, (μ ((h0 + 248)) 3)), μ)))) else (some ((4, 0), μ))))
noncomputable def fX7_account (h0 : Nat) (p1 : Int32) (μ : xM) : Option (xO × xM) :=
  xcb (fX7_demandRange p1 ((0 : Int32)) ((15 : Int32)) μ) (fun r1 m1 => if p1 = (0 : Int32) then (some ((0, (m1 ((h0 + 1)) 4)), m1)) else (if p1 = (1 : Int32) then (some ((0, (m1 ((h0 + 1)) 3)), m1)) else (if p1 = (2 : Int32) then (xb (fX0_countOf ((h0 + 1)) ((-1 : Int32)) ((0 : Int32)) m1) (fun r5 m5 => some ((0, r5), m5))) else (if p1 = (3 : Int32) then (xb (fX0_countOf ((h0 + 1)) ((-1 : Int32)) ((1 : Int32)) m1) (fun r7 m7 => some ((0, r7), m7))) else (if p1 = (4 : Int32) then (xb (fX0_countOf ((h0 + 1)) ((-1 : Int32)) ((2 : Int32)) m1) (fun r9 m9 => some ((0, r9), m9))) else (if p1 = (5 : Int32) then (xb (fX0_countOf ((h0 + 1)) ((-1 : Int32)) ((3 : Int32)) m1) (fun r11 m11 => some ((0, r11), m11))) else (if p1 = (6 : Int32) then (xb (fX0_sumOfLent ((h0 + 1)) m1) (fun r13 m13 => some ((0, r13), m13))) else (if p1 = (7 : Int32) then (xb (fX0_sumOfPaid ((h0 + 1)) m1) (fun r15 m15 => some ((0, r15), m15))) else (if p1 = (8 : Int32) then (xb (fX0_sumOfPrices ((h0 + 1)) m1) (fun r17 m17 => some ((0, r17), m17))) else (if p1 = (9 : Int32) then (xb (fX0_sumOfClaimed ((h0 + 1)) m1) (fun r19 m19 => some ((0, r19), m19))) else (if p1 = (10 : Int32) then (xb (fX0_sumOfLeft ((h0 + 1)) m1) (fun r21 m21 => some ((0, r21), m21))) else (if p1 = (11 : Int32) then (xb (fX0_sumOfLosses ((h0 + 1)) m1) (fun r23 m23 => some ((0, r23), m23))) else (if p1 = (12 : Int32) then (some ((0, (m1 ((h0 + 1)) 5)), m1)) else (if p1 = (13 : Int32) then (some ((0, (m1 ((h0 + 1)) 6)), m1)) else (if p1 = (14 : Int32) then (some ((0, (m1 ((h0 + 225)) 2)), m1)) else (some ((0, (m1 ((h0 + 61)) 2)), m1)))))))))))))))))
noncomputable def fX7_undo (h0 : Nat) (μ : xM) : Option (xO × xM) :=
  if (μ ((h0 + 61)) 2) ≤ 0 then (xcb (fX7_demandState ((0 : Int32)) μ) (fun r2 m2 => xbv (fX2_takeBack ((h0 + 61)) ((h0 + 1)) m2) (fun m3 => some ((0, (m3 ((h0 + 61)) 2)), m3)))) else (xcb (fX7_demandState ((1 : Int32)) μ) (fun r4 m4 => xbv (fX2_takeBack ((h0 + 61)) ((h0 + 1)) m4) (fun m5 => some ((0, (m5 ((h0 + 61)) 2)), m5))))
noncomputable def fX7_save (h0 : Nat) (μ : xM) : Option (Int32 × xM) :=
  xbv (fX0_copyFrom ((h0 + 21)) ((h0 + 1)) μ) (fun m1 => some ((((xw m1 h0 3 (1 : Int32))) ((h0 + 1)) 4), (xw m1 h0 3 (1 : Int32))))
noncomputable def fX7_restore (h0 : Nat) (μ : xM) : Option (xO × xM) :=
  xcb (fX7_demandState ((μ h0 3)) μ) (fun r1 m1 => xbv (fX0_copyFrom ((h0 + 1)) ((h0 + 21)) m1) (fun m2 => xbv (fX2_forget ((h0 + 61)) m2) (fun m3 => some ((0, (m3 ((h0 + 1)) 4)), m3))))
