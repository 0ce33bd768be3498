/-! HeaderSqueeze$Context.complete -/
def f_X0_complete_0 (p0 : Nat) (p1 : Nat) (x2 : Int32) (S : hs_M) : Option hs_M := hs_l (hs_U S p1 0 (S p0 0)) (fun S_1 => hs_l (hs_U S_1 p1 1 (S_1 p0 1)) (fun S_2 => hs_l (hs_U S_2 p1 3 x2) (fun S_3 => hs_l (hs_U S_3 p1 4 ((S_3 p0 3) + (x2 * (S_3 p0 2)))) (fun S_4 => hs_l (hs_U S_4 p1 5 (((S_4 p0 4) + x2) &&& (65535 : Int32))) (fun S_5 => some S_5)))))
def f_X0_complete (i0 : Nat) (i1 : Nat) (a2 : Int32) (S : hs_M) : Option hs_M := f_X0_complete_0 i0 i1 a2 S
/-! HeaderSqueeze$Context.phaseOf -/
def f_X0_phaseOf_0 (p0 : Nat) (x1 : Int32) (S : hs_M) : Option (Int32 × hs_M) := some (((S p0 4) - ((S p0 3) * x1)), S)
def f_X0_phaseOf (i0 : Nat) (a1 : Int32) (S : hs_M) : Option (Int32 × hs_M) := f_X0_phaseOf_0 i0 a1 S
/-! HeaderSqueeze$Context.offsetOf -/
def f_X0_offsetOf_0 (p0 : Nat) (S : hs_M) : Option (Int32 × hs_M) := some ((((S p0 5) - (S p0 3)) &&& (65535 : Int32)), S)
def f_X0_offsetOf (i0 : Nat) (S : hs_M) : Option (Int32 × hs_M) := f_X0_offsetOf_0 i0 S
/-! HeaderSqueeze$Context.follow -/
def f_X0_follow_0 (p0 : Nat) (p1 : Nat) (x2 : Int32) (S : hs_M) : Option hs_M := hs_l (hs_U S p0 0 (S p1 0)) (fun S_1 => hs_l (hs_U S_1 p0 1 (S_1 p1 1)) (fun S_2 => hs_l (hs_U S_2 p0 2 x2) (fun S_3 => hs_b2 (f_X0_phaseOf p1 x2 S_3) (fun r_6 S_4 => hs_l (hs_U S_4 p0 3 r_6) (fun S_7 => hs_b2 (f_X0_offsetOf p1 S_7) (fun r_10 S_8 => hs_l (hs_U S_8 p0 4 r_10) (fun S_11 => some S_11)))))))
def f_X0_follow (i0 : Nat) (i1 : Nat) (a2 : Int32) (S : hs_M) : Option hs_M := f_X0_follow_0 i0 i1 a2 S
/-! HeaderSqueeze$Context.isOf -/
def f_X0_isOf_27 (y0 : Int32) (S : hs_M) : Option (Int32 × hs_M) := hs_bg y0 (some (y0, S))
def f_X0_isOf_26 (S : hs_M) : Option (Int32 × hs_M) := f_X0_isOf_27  (0 : Int32) S
def f_X0_isOf_0 (p0 : Nat) (p1 : Nat) (S : hs_M) : Option (Int32 × hs_M) := (if (S p0 0) = (S p1 0) then (if (S p0 1) = (S p1 1) then f_X0_isOf_27  (1 : Int32) S else f_X0_isOf_26   S) else f_X0_isOf_26   S)
def f_X0_isOf (i0 : Nat) (i1 : Nat) (S : hs_M) : Option (Int32 × hs_M) := f_X0_isOf_0 i0 i1 S
/-! HeaderSqueeze$Context.goesAlong -/
def f_X0_goesAlong_39 (y0 : Int32) (S : hs_M) : Option (Int32 × hs_M) := hs_bg y0 (some (y0, S))
def f_X0_goesAlong_38 (S : hs_M) : Option (Int32 × hs_M) := f_X0_goesAlong_39  (0 : Int32) S
def f_X0_goesAlong_0 (p0 : Nat) (p1 : Nat) (S : hs_M) : Option (Int32 × hs_M) := hs_b2 (f_X0_isOf p0 p1 S) (fun r_3 S_1 => (if r_3 = 0 then f_X0_goesAlong_38   S_1 else hs_b2 (f_X0_phaseOf p1 (S_1 p0 2) S_1) (fun r_6 S_4 => (if (S_1 p0 3) = r_6 then hs_b2 (f_X0_offsetOf p1 S_4) (fun r_9 S_7 => (if (S_4 p0 4) = r_9 then f_X0_goesAlong_39  (1 : Int32) S_7 else f_X0_goesAlong_38   S_7)) else f_X0_goesAlong_38   S_4))))
def f_X0_goesAlong (i0 : Nat) (i1 : Nat) (S : hs_M) : Option (Int32 × hs_M) := f_X0_goesAlong_0 i0 i1 S
/-! HeaderSqueeze$Head.markBit -/
def f_X1_markBit_14 (y0 : Int32) (S : hs_M) : Option (Int32 × hs_M) := some (y0, S)
def f_X1_markBit_0 (p0 : Nat) (S : hs_M) : Option (Int32 × hs_M) := (if (S p0 2) = 0 then f_X1_markBit_14  (0 : Int32) S else f_X1_markBit_14  (128 : Int32) S)
def f_X1_markBit (i0 : Nat) (S : hs_M) : Option (Int32 × hs_M) := f_X1_markBit_0 i0 S
/-! HeaderSqueeze$Head.part -/
def f_X1_part_0 (p0 : Nat) (x1 : Int32) (S : hs_M) : Option (Int32 × hs_M) := (if x1 = 0 then some ((hs_ushr (S p0 0) (8 : Int32)), S) else (if x1 = 1 then some (((S p0 0) &&& (255 : Int32)), S) else (if x1 = 2 then hs_b2 (f_X1_markBit p0 S) (fun r_6 S_4 => some (((S p0 1) + r_6), S_4)) else (if x1 = 3 then some ((hs_ushr (S p0 3) (8 : Int32)), S) else (if x1 = 4 then some (((S p0 3) &&& (255 : Int32)), S) else (if x1 = 5 then some ((hs_ushr (S p0 4) (24 : Int32)), S) else (if x1 = 6 then some (((hs_ushr (S p0 4) (16 : Int32)) &&& (255 : Int32)), S) else (if x1 = 7 then some (((hs_ushr (S p0 4) (8 : Int32)) &&& (255 : Int32)), S) else (if x1 = 8 then some (((S p0 4) &&& (255 : Int32)), S) else (if x1 = 9 then some ((hs_ushr (S p0 5) (8 : Int32)), S) else some (((S p0 5) &&& (255 : Int32)), S)))))))))))
def f_X1_part (i0 : Nat) (a1 : Int32) (S : hs_M) : Option (Int32 × hs_M) := f_X1_part_0 i0 a1 S
/-! HeaderSqueeze$Head.sumBehind -/
def f_X1_sumBehind_43 (K5 : Int32 → Int32 → Int32 → Int32 → hs_M → Option (Int32 × hs_M)) (x1 : Int32) (x2 : Int32) (x3 : Int32) (x4 : Int32) (S : hs_M) : Option (Int32 × hs_M) := hs_l (x4 + (1 : Int32)) (fun x_1 => K5 x1 x2 x3 x_1 S)
def f_X1_sumBehind_28 (K5 : Int32 → Int32 → Int32 → Int32 → hs_M → Option (Int32 × hs_M)) (x1 : Int32) (x2 : Int32) (x3 : Int32) (x4 : Int32) (y0 : Int32) (S : hs_M) : Option (Int32 × hs_M) := hs_l (hs_ushr x3 (1 : Int32)) (fun x_1 => (if y0 = 0 then f_X1_sumBehind_43 K5 x1 x2 x_1 x4 S else hs_l (x_1 ^^^ x1) (fun x_2 => f_X1_sumBehind_43 K5 x1 x2 x_2 x4 S)))
def fb_X1_sumBehind_5 (K5 : Int32 → Int32 → Int32 → Int32 → hs_M → Option (Int32 × hs_M)) (x1 : Int32) (x2 : Int32) (x3 : Int32) (x4 : Int32) (S : hs_M) : Option (Int32 × hs_M) := (if (8 : Int32) ≤ x4 then some (x3, S) else (if ((x3 ^^^ (hs_ushr x2 x4)) &&& (1 : Int32)) = 0 then f_X1_sumBehind_28 K5 x1 x2 x3 x4 (0 : Int32) S else f_X1_sumBehind_28 K5 x1 x2 x3 x4 (1 : Int32) S))
def f_X1_sumBehind_5  : Nat → Int32 → Int32 → Int32 → Int32 → hs_M → Option (Int32 × hs_M)
  | 0 => fun _ _ _ _ _ => none
  | n + 1 => fb_X1_sumBehind_5  (f_X1_sumBehind_5  n)
def f_X1_sumBehind_0 (x0 : Int32) (x1 : Int32) (x2 : Int32) (S : hs_M) : Option (Int32 × hs_M) := f_X1_sumBehind_5  hs_fuel x1 x2 x0 (0 : Int32) S
def f_X1_sumBehind (a0 : Int32) (a1 : Int32) (a2 : Int32) (S : hs_M) : Option (Int32 × hs_M) := f_X1_sumBehind_0 a0 a1 a2 S
/-! HeaderSqueeze$Head.sumFor -/
def f_X1_sumFor_70 (x3 : Int32) (S : hs_M) : Option (Int32 × hs_M) := some (x3, S)
def fb_X1_sumFor_16 (K16 : Nat → Int32 → Int32 → Int32 → Int32 → Int32 → hs_M → Option (Int32 × hs_M)) (p0 : Nat) (x1 : Int32) (x2 : Int32) (x3 : Int32) (x4 : Int32) (x5 : Int32) (S : hs_M) : Option (Int32 × hs_M) := (if (11 : Int32) ≤ x5 then (if x1 = (4 : Int32) then hs_b2 (f_X1_sumBehind x3 x4 (hs_ushr x2 (8 : Int32)) S) (fun r_3 S_1 => hs_b2 (f_X1_sumBehind r_3 x4 (x2 &&& (255 : Int32)) S_1) (fun r_6 S_4 => f_X1_sumFor_70  r_6 S_4)) else f_X1_sumFor_70  x3 S) else hs_b2 (f_X1_part p0 x5 S) (fun r_9 S_7 => hs_b2 (f_X1_sumBehind x3 x4 r_9 S_7) (fun r_12 S_10 => hs_l (x5 + (1 : Int32)) (fun x_13 => K16 p0 x1 x2 r_12 x4 x_13 S_10))))
def f_X1_sumFor_16  : Nat → Nat → Int32 → Int32 → Int32 → Int32 → Int32 → hs_M → Option (Int32 × hs_M)
  | 0 => fun _ _ _ _ _ _ _ => none
  | n + 1 => fb_X1_sumFor_16  (f_X1_sumFor_16  n)
def f_X1_sumFor_0 (p0 : Nat) (x1 : Int32) (x2 : Int32) (S : hs_M) : Option (Int32 × hs_M) := hs_ix x1 (hs_sn 1) (hs_l (hs_sv 1 x1.toNatClampNeg) (fun x_1 => hs_ix x1 (hs_sn 2) (hs_l (hs_sv 2 x1.toNatClampNeg) (fun x_2 => f_X1_sumFor_16  hs_fuel p0 x1 x2 x_1 x_2 (0 : Int32) S))))
def f_X1_sumFor (i0 : Nat) (a1 : Int32) (a2 : Int32) (S : hs_M) : Option (Int32 × hs_M) := f_X1_sumFor_0 i0 a1 a2 S
/-! HeaderSqueeze$Line.addRowBehind -/
def f_X2_addRowBehind_0 (S : hs_M) : Option (Int32 × hs_M) := (if (S 4 1) = (8 : Int32) then hs_bg (0 : Int32) (some ((0 : Int32), S)) else hs_l (hs_U S 4 1 ((S 4 1) + (1 : Int32))) (fun S_1 => hs_bg (1 : Int32) (some ((1 : Int32), S_1))))
def f_X2_addRowBehind  (S : hs_M) : Option (Int32 × hs_M) := f_X2_addRowBehind_0  S
/-! HeaderSqueeze$Line.rowBehind -/
def f_X2_rowBehind_0 (S : hs_M) : Option (Nat × hs_M) := hs_l (S 4 1) (fun x_1 => hs_ix x_1 (hs_N 5) (hs_l (S 5 x_1.toNatClampNeg).toNatClampNeg (fun p_2 => hs_kg p_2 3 (some (p_2, S)))))
def f_X2_rowBehind  (S : hs_M) : Option (Nat × hs_M) := f_X2_rowBehind_0  S
/-! HeaderSqueeze$Line.takeOff -/
def fb_X2_takeOff_19 (K19 : Nat → Int32 → hs_M → Option (Nat × hs_M)) (p2 : Nat) (x3 : Int32) (S : hs_M) : Option (Nat × hs_M) := (if (S 4 1) ≤ x3 then hs_ix (S 4 1) (hs_N 5) (hs_l (hs_U S 5 (S 4 1).toNatClampNeg (nI p2)) (fun S_1 => some (p2, S_1))) else hs_l (x3 + (1 : Int32)) (fun x_2 => hs_ix x_2 (hs_N 5) (hs_l (S 5 x_2.toNatClampNeg).toNatClampNeg (fun p_3 => hs_kg p_3 3 (hs_ix x3 (hs_N 5) (hs_l (hs_U S 5 x3.toNatClampNeg (nI p_3)) (fun S_5 => hs_l (x3 + (1 : Int32)) (fun x_6 => K19 p2 x_6 S_5))))))))
def f_X2_takeOff_19  : Nat → Nat → Int32 → hs_M → Option (Nat × hs_M)
  | 0 => fun _ _ _ => none
  | n + 1 => fb_X2_takeOff_19  (f_X2_takeOff_19  n)
def f_X2_takeOff_0 (x1 : Int32) (S : hs_M) : Option (Nat × hs_M) := hs_ix x1 (hs_N 5) (hs_l (S 5 x1.toNatClampNeg).toNatClampNeg (fun p_1 => hs_kg p_1 3 (hs_l (hs_U S 4 1 ((S 4 1) - (1 : Int32))) (fun S_3 => f_X2_takeOff_19  hs_fuel p_1 x1 S_3))))
def f_X2_takeOff (a1 : Int32) (S : hs_M) : Option (Nat × hs_M) := f_X2_takeOff_0 a1 S
/-! HeaderSqueeze$Packet.own -/
def f_X3_own_0 (p0 : Nat) (x1 : Int32) (S : hs_M) : Option (Int32 × hs_M) := hs_l ((S p0 4) + x1) (fun x_1 => hs_ix x_1 (hs_N (p0 + 9)) (some ((S (p0 + 9) x_1.toNatClampNeg), S)))
def f_X3_own (i0 : Nat) (a1 : Int32) (S : hs_M) : Option (Int32 × hs_M) := f_X3_own_0 i0 a1 S
/-! HeaderSqueeze$Packet.isNoMark -/
def f_X3_isNoMark_16 (y0 : Int32) (S : hs_M) : Option (Int32 × hs_M) := hs_bg y0 (some (y0, S))
def f_X3_isNoMark_15 (S : hs_M) : Option (Int32 × hs_M) := f_X3_isNoMark_16  (0 : Int32) S
def f_X3_isNoMark_0 (x0 : Int32) (S : hs_M) : Option (Int32 × hs_M) := (if x0 = 0 then f_X3_isNoMark_15   S else (if x0 = (128 : Int32) then f_X3_isNoMark_15   S else f_X3_isNoMark_16  (1 : Int32) S))
def f_X3_isNoMark (a0 : Int32) (S : hs_M) : Option (Int32 × hs_M) := f_X3_isNoMark_0 a0 S
/-! HeaderSqueeze$Packet.isMisshapen -/
def f_X3_isMisshapen_104 (y0 : Int32) (S : hs_M) : Option (Int32 × hs_M) := hs_bg y0 (some (y0, S))
def f_X3_isMisshapen_99 (S : hs_M) : Option (Int32 × hs_M) := f_X3_isMisshapen_104  (1 : Int32) S
def f_X3_isMisshapen_67 (y0 : Int32) (S : hs_M) : Option (Int32 × hs_M) := hs_bg y0 (some (y0, S))
def f_X3_isMisshapen_0 (p0 : Nat) (S : hs_M) : Option (Int32 × hs_M) := hs_l (S p0 3) (fun x_1 => hs_ix x_1 (hs_sn 0) ((if ((S p0 1) - (S p0 4)) = (hs_sv 0 x_1.toNatClampNeg) then hs_l (S p0 3) (fun x_2 => (if x_2 = 2 then hs_b2 (f_X3_own p0 (1 : Int32) S) (fun r_6 S_4 => (if (r_6 &&& (3 : Int32)) = 0 then f_X3_isMisshapen_67  (0 : Int32) S_4 else f_X3_isMisshapen_67  (1 : Int32) S_4)) else (if x_2 = 3 then hs_b2 (f_X3_own p0 (1 : Int32) S) (fun r_10 S_8 => hs_b2 (f_X3_isNoMark r_10 S_8) (fun r_13 S_11 => hs_bg r_13 (some (r_13, S_11)))) else (if x_2 = 4 then hs_b2 (f_X3_own p0 (3 : Int32) S) (fun r_17 S_15 => (if (127 : Int32) < r_17 then f_X3_isMisshapen_99   S_15 else hs_b2 (f_X3_own p0 (6 : Int32) S_15) (fun r_20 S_18 => hs_b2 (f_X3_isNoMark r_20 S_18) (fun r_23 S_21 => (if r_23 = 0 then f_X3_isMisshapen_104  (0 : Int32) S_21 else f_X3_isMisshapen_99   S_21))))) else hs_bg (0 : Int32) (some ((0 : Int32), S)))))) else hs_bg (1 : Int32) (some ((1 : Int32), S)))))
def f_X3_isMisshapen (i0 : Nat) (S : hs_M) : Option (Int32 × hs_M) := f_X3_isMisshapen_0 i0 S
/-! HeaderSqueeze$Packet.kindTold -/
def f_X3_kindTold_48 (y0 : Int32) (S : hs_M) : Option (Int32 × hs_M) := some (y0, S)
def f_X3_kindTold_0 (x0 : Int32) (S : hs_M) : Option (Int32 × hs_M) := (if (128 : Int32) ≤ x0 then (if (192 : Int32) ≤ x0 then (if (224 : Int32) ≤ x0 then (if x0 = (248 : Int32) then some ((3 : Int32), S) else (if x0 = (253 : Int32) then f_X3_kindTold_48  (4 : Int32) S else f_X3_kindTold_48  (-1 : Int32) S)) else some ((2 : Int32), S)) else some ((1 : Int32), S)) else some ((0 : Int32), S))
def f_X3_kindTold (a0 : Int32) (S : hs_M) : Option (Int32 × hs_M) := f_X3_kindTold_0 a0 S
/-! HeaderSqueeze$Packet.lowTold -/
def f_X3_lowTold_0 (p0 : Nat) (S : hs_M) : Option (Int32 × hs_M) := hs_l (S p0 3) (fun x_1 => (if x_1 = 0 then hs_b2 (f_X3_own p0 (0 : Int32) S) (fun r_5 S_3 => some ((hs_ushr r_5 (3 : Int32)), S_3)) else (if x_1 = 1 then hs_b2 (f_X3_own p0 (0 : Int32) S) (fun r_9 S_7 => some ((r_9 &&& (63 : Int32)), S_7)) else hs_b2 (f_X3_own p0 (0 : Int32) S) (fun r_12 S_10 => hs_b2 (f_X3_own p0 (1 : Int32) S_10) (fun r_15 S_13 => some ((((r_12 &&& (31 : Int32)) * (32 : Int32)) + (hs_ushr r_15 (3 : Int32))), S_13))))))
def f_X3_lowTold (i0 : Nat) (S : hs_M) : Option (Int32 × hs_M) := f_X3_lowTold_0 i0 S
/-! HeaderSqueeze$Packet.markTold -/
def f_X3_markTold_66 (y0 : Int32) (S : hs_M) : Option (Int32 × hs_M) := hs_bg y0 (some (y0, S))
def f_X3_markTold_50 (y0 : Int32) (S : hs_M) : Option (Int32 × hs_M) := hs_bg y0 (some (y0, S))
def f_X3_markTold_0 (p0 : Nat) (S : hs_M) : Option (Int32 × hs_M) := hs_l (S p0 3) (fun x_1 => (if x_1 = 0 then hs_bg (0 : Int32) (some ((0 : Int32), S)) else (if x_1 = 1 then hs_b2 (f_X3_own p0 (1 : Int32) S) (fun r_6 S_4 => (if r_6 < (128 : Int32) then f_X3_markTold_50  (0 : Int32) S_4 else f_X3_markTold_50  (1 : Int32) S_4)) else hs_b2 (f_X3_own p0 (1 : Int32) S) (fun r_9 S_7 => (if (r_9 &&& (4 : Int32)) = 0 then f_X3_markTold_66  (0 : Int32) S_7 else f_X3_markTold_66  (1 : Int32) S_7)))))
def f_X3_markTold (i0 : Nat) (S : hs_M) : Option (Int32 × hs_M) := f_X3_markTold_0 i0 S
/-! HeaderSqueeze$Packet.ownTwo -/
def f_X3_ownTwo_0 (p0 : Nat) (x1 : Int32) (S : hs_M) : Option (Int32 × hs_M) := hs_b2 (f_X3_own p0 x1 S) (fun r_3 S_1 => hs_b2 (f_X3_own p0 (x1 + (1 : Int32)) S_1) (fun r_6 S_4 => some (((r_3 * (256 : Int32)) + r_6), S_4)))
def f_X3_ownTwo (i0 : Nat) (a1 : Int32) (S : hs_M) : Option (Int32 × hs_M) := f_X3_ownTwo_0 i0 a1 S
/-! HeaderSqueeze$Packet.put -/
def f_X3_put_29 (S : hs_M) : Option hs_M := some S
def f_X3_put_0 (p0 : Nat) (x1 : Int32) (S : hs_M) : Option hs_M := (if (17 : Int32) ≤ (S p0 1) then f_X3_put_29   S else hs_ix (S p0 1) (hs_N (p0 + 9)) (hs_l (hs_U S (p0 + 9) (S p0 1).toNatClampNeg x1) (fun S_1 => hs_l (hs_U S_1 p0 1 ((S_1 p0 1) + (1 : Int32))) (fun S_2 => f_X3_put_29   S_2))))
def f_X3_put (i0 : Nat) (a1 : Int32) (S : hs_M) : Option hs_M := f_X3_put_0 i0 a1 S
/-! HeaderSqueeze$Packet.putMoving -/
def fb_X3_putMoving_10 (K10 : Nat → Nat → Int32 → Int32 → hs_M → Option hs_M) (p0 : Nat) (p1 : Nat) (x2 : Int32) (x3 : Int32) (S : hs_M) : Option hs_M := (if (11 : Int32) ≤ x3 then hs_b1 (f_X3_put p0 x2 S) (fun S_1 => some S_1) else hs_b2 (f_X1_part p1 x3 S) (fun r_5 S_3 => hs_b1 (f_X3_put p0 r_5 S_3) (fun S_6 => hs_l (x3 + (1 : Int32)) (fun x_8 => K10 p0 p1 x2 x_8 S_6))))
def f_X3_putMoving_10  : Nat → Nat → Nat → Int32 → Int32 → hs_M → Option hs_M
  | 0 => fun _ _ _ _ _ => none
  | n + 1 => fb_X3_putMoving_10  (f_X3_putMoving_10  n)
def f_X3_putMoving_0 (p0 : Nat) (p1 : Nat) (x2 : Int32) (S : hs_M) : Option hs_M := hs_b2 (f_X1_markBit p1 S) (fun r_3 S_1 => hs_b1 (f_X3_put p0 r_3 S_1) (fun S_4 => f_X3_putMoving_10  hs_fuel p0 p1 x2 (3 : Int32) S_4))
def f_X3_putMoving (i0 : Nat) (i1 : Nat) (a2 : Int32) (S : hs_M) : Option hs_M := f_X3_putMoving_0 i0 i1 a2 S
/-! HeaderSqueeze$Packet.putTwo -/
def f_X3_putTwo_0 (p0 : Nat) (x1 : Int32) (S : hs_M) : Option hs_M := hs_b1 (f_X3_put p0 (hs_ushr x1 (8 : Int32)) S) (fun S_1 => hs_b1 (f_X3_put p0 (x1 &&& (255 : Int32)) S_1) (fun S_3 => some S_3))
def f_X3_putTwo (i0 : Nat) (a1 : Int32) (S : hs_M) : Option hs_M := f_X3_putTwo_0 i0 a1 S
/-! HeaderSqueeze$Packet.read -/
def f_X3_read_116 (S : hs_M) : Option hs_M := some S
def f_X3_read_93 (p0 : Nat) (q0 : Nat) (y1 : Int32) (S : hs_M) : Option hs_M := hs_l (hs_U S q0 3 y1) (fun S_1 => (if (S_1 p0 3) = (-1 : Int32) then f_X3_read_116   S_1 else hs_b2 (f_X3_isMisshapen p0 S_1) (fun r_4 S_2 => (if r_4 = 0 then f_X3_read_116   S_2 else hs_l (hs_U S_2 p0 3 (-1 : Int32)) (fun S_5 => f_X3_read_116   S_5)))))
def f_X3_read_62 (p0 : Nat) (q0 : Nat) (y1 : Int32) (S : hs_M) : Option hs_M := hs_l (hs_U S q0 4 y1) (fun S_1 => (if (S_1 p0 1) ≤ (S_1 p0 4) then f_X3_read_93  p0 p0 (-1 : Int32) S_1 else hs_l (S_1 p0 4) (fun x_2 => hs_ix x_2 (hs_N (p0 + 9)) (hs_b2 (f_X3_kindTold (S_1 (p0 + 9) x_2.toNatClampNeg) S_1) (fun r_5 S_3 => f_X3_read_93  p0 p0 r_5 S_3)))))
def f_X3_read_49 (p0 : Nat) (x1 : Int32) (q0 : Nat) (y1 : Int32) (S : hs_M) : Option hs_M := hs_l (hs_U S q0 2 y1) (fun S_1 => (if x1 = 0 then f_X3_read_62  p0 p0 (0 : Int32) S_1 else f_X3_read_62  p0 p0 (1 : Int32) S_1))
def f_X3_read_29 (p0 : Nat) (y0 : Int32) (S : hs_M) : Option hs_M := (if y0 = 0 then f_X3_read_49  p0 y0 p0 (0 : Int32) S else hs_ix (0 : Int32) (hs_N (p0 + 9)) (f_X3_read_49  p0 y0 p0 ((S (p0 + 9) (0 : Int32).toNatClampNeg) - (224 : Int32)) S))
def f_X3_read_28 (p0 : Nat) (S : hs_M) : Option hs_M := f_X3_read_29  p0 (0 : Int32) S
def f_X3_read_0 (p0 : Nat) (S : hs_M) : Option hs_M := hs_ix (0 : Int32) (hs_N (p0 + 9)) ((if (S (p0 + 9) (0 : Int32).toNatClampNeg) ≤ (224 : Int32) then f_X3_read_28  p0 S else hs_ix (0 : Int32) (hs_N (p0 + 9)) ((if (228 : Int32) ≤ (S (p0 + 9) (0 : Int32).toNatClampNeg) then f_X3_read_28  p0 S else f_X3_read_29  p0 (1 : Int32) S))))
def f_X3_read (i0 : Nat) (S : hs_M) : Option hs_M := f_X3_read_0 i0 S
/-! HeaderSqueeze$Packet.readFixed -/
def f_X3_readFixed_0 (p0 : Nat) (p1 : Nat) (S : hs_M) : Option hs_M := hs_b2 (f_X3_ownTwo p0 (1 : Int32) S) (fun r_3 S_1 => hs_l (hs_U S_1 p1 0 r_3) (fun S_4 => hs_b2 (f_X3_own p0 (3 : Int32) S_4) (fun r_7 S_5 => hs_l (hs_U S_5 p1 1 r_7) (fun S_8 => some S_8))))
def f_X3_readFixed (i0 : Nat) (i1 : Nat) (S : hs_M) : Option hs_M := f_X3_readFixed_0 i0 i1 S
/-! HeaderSqueeze$Packet.readMoving -/
def f_X3_readMoving_29 (p0 : Nat) (p1 : Nat) (x2 : Int32) (q0 : Nat) (y1 : Int32) (S : hs_M) : Option hs_M := hs_bg y1 (hs_l (hs_U S q0 2 y1) (fun S_1 => hs_b2 (f_X3_ownTwo p0 (x2 + (1 : Int32)) S_1) (fun r_4 S_2 => hs_l (hs_U S_2 p1 3 r_4) (fun S_5 => hs_b2 (f_X3_ownTwo p0 (x2 + (3 : Int32)) S_5) (fun r_8 S_6 => hs_b2 (f_X3_ownTwo p0 (x2 + (5 : Int32)) S_6) (fun r_11 S_9 => hs_l (hs_U S_9 p1 4 ((r_8 * (65536 : Int32)) + r_11)) (fun S_12 => hs_b2 (f_X3_ownTwo p0 (x2 + (7 : Int32)) S_12) (fun r_15 S_13 => hs_l (hs_U S_13 p1 5 r_15) (fun S_16 => some S_16)))))))))
def f_X3_readMoving_14 (p0 : Nat) (p1 : Nat) (y0 : Int32) (S : hs_M) : Option hs_M := hs_b2 (f_X3_own p0 y0 S) (fun r_3 S_1 => (if r_3 = 0 then f_X3_readMoving_29  p0 p1 y0 p1 (0 : Int32) S_1 else f_X3_readMoving_29  p0 p1 y0 p1 (1 : Int32) S_1))
def f_X3_readMoving_0 (p0 : Nat) (p1 : Nat) (S : hs_M) : Option hs_M := (if (S p0 3) = (4 : Int32) then f_X3_readMoving_14  p0 p1 (6 : Int32) S else f_X3_readMoving_14  p0 p1 (1 : Int32) S)
def f_X3_readMoving (i0 : Nat) (i1 : Nat) (S : hs_M) : Option hs_M := f_X3_readMoving_0 i0 i1 S
/-! HeaderSqueeze$Packet.strideTold -/
def f_X3_strideTold_0 (p0 : Nat) (S : hs_M) : Option (Int32 × hs_M) := hs_b2 (f_X3_ownTwo p0 (4 : Int32) S) (fun r_3 S_1 => some (r_3, S_1))
def f_X3_strideTold (i0 : Nat) (S : hs_M) : Option (Int32 × hs_M) := f_X3_strideTold_0 i0 S
/-! HeaderSqueeze$Packet.sumTold -/
def f_X3_sumTold_0 (p0 : Nat) (S : hs_M) : Option (Int32 × hs_M) := hs_l ((S p0 1) - (1 : Int32)) (fun x_1 => hs_ix x_1 (hs_N (p0 + 9)) (hs_l (S p0 3) (fun x_2 => hs_ix x_2 (hs_sn 1) (some (((S (p0 + 9) x_1.toNatClampNeg) &&& (hs_sv 1 x_2.toNatClampNeg)), S)))))
def f_X3_sumTold (i0 : Nat) (S : hs_M) : Option (Int32 × hs_M) := f_X3_sumTold_0 i0 S
/-! HeaderSqueeze$Packet.write -/
def f_X3_write_218 (S : hs_M) : Option hs_M := some S
def f_X3_write_152 (p0 : Nat) (x5 : Int32) (q0 : Nat) (y1 : Int32) (y2 : Int32) (S : hs_M) : Option hs_M := hs_b1 (f_X3_put q0 (y1 + y2) S) (fun S_1 => hs_b1 (f_X3_put p0 x5 S_1) (fun S_3 => f_X3_write_218   S_3))
def f_X3_write_48 (p0 : Nat) (x2 : Int32) (p3 : Nat) (x4 : Int32) (x5 : Int32) (x6 : Int32) (S : hs_M) : Option hs_M := (if x2 = 0 then hs_b1 (f_X3_put p0 ((x6 * (8 : Int32)) + x5) S) (fun S_2 => f_X3_write_218   S_2) else (if x2 = 1 then hs_b1 (f_X3_put p0 ((128 : Int32) + x6) S) (fun S_5 => hs_b2 (f_X1_markBit p3 S_5) (fun r_9 S_7 => hs_b1 (f_X3_put p0 (r_9 + x5) S_7) (fun S_10 => f_X3_write_218   S_10))) else (if x2 = 2 then hs_b1 (f_X3_put p0 ((192 : Int32) + (hs_ushr x6 (5 : Int32))) S) (fun S_13 => (if (S_13 p3 2) = 0 then f_X3_write_152  p0 x5 p0 ((x6 &&& (31 : Int32)) * (8 : Int32)) (0 : Int32) S_13 else f_X3_write_152  p0 x5 p0 ((x6 &&& (31 : Int32)) * (8 : Int32)) (4 : Int32) S_13)) else (if x2 = 3 then hs_b1 (f_X3_put p0 (248 : Int32) S) (fun S_16 => hs_b1 (f_X3_putMoving p0 p3 x5 S_16) (fun S_18 => f_X3_write_218   S_18)) else hs_b1 (f_X3_put p0 (253 : Int32) S) (fun S_20 => hs_b1 (f_X3_putTwo p0 (S_20 p3 0) S_20) (fun S_22 => hs_b1 (f_X3_put p0 (S_22 p3 1) S_22) (fun S_24 => hs_b1 (f_X3_putTwo p0 x4 S_24) (fun S_26 => hs_b1 (f_X3_putMoving p0 p3 x5 S_26) (fun S_28 => f_X3_write_218   S_28)))))))))
def f_X3_write_28 (p0 : Nat) (x1 : Int32) (x2 : Int32) (p3 : Nat) (x4 : Int32) (x5 : Int32) (y0 : Int32) (S : hs_M) : Option hs_M := hs_l (hs_U S p0 1 (0 : Int32)) (fun S_1 => (if x1 = 0 then f_X3_write_48  p0 x2 p3 x4 x5 y0 S_1 else hs_b1 (f_X3_put p0 ((224 : Int32) + x1) S_1) (fun S_2 => f_X3_write_48  p0 x2 p3 x4 x5 y0 S_2)))
def f_X3_write_0 (p0 : Nat) (x1 : Int32) (x2 : Int32) (p3 : Nat) (x4 : Int32) (S : hs_M) : Option hs_M := hs_b2 (f_X1_sumFor p3 x2 x4 S) (fun r_3 S_1 => (if (3 : Int32) ≤ x2 then f_X3_write_28  p0 x1 x2 p3 x4 r_3 (0 : Int32) S_1 else hs_ix x2 (hs_sn 3) (f_X3_write_28  p0 x1 x2 p3 x4 r_3 ((S_1 p3 3) &&& (hs_sv 3 x2.toNatClampNeg)) S_1)))
def f_X3_write (i0 : Nat) (a1 : Int32) (a2 : Int32) (i3 : Nat) (a4 : Int32) (S : hs_M) : Option hs_M := f_X3_write_0 i0 a1 a2 i3 a4 S
/-! HeaderSqueeze$Receiver.fits -/
def f_X4_fits_44 (y0 : Int32) (S : hs_M) : Option (Int32 × hs_M) := hs_bg y0 (some (y0, S))
def f_X4_fits_0 (p0 : Nat) (p1 : Nat) (p2 : Nat) (x3 : Int32) (S : hs_M) : Option (Int32 × hs_M) := hs_b1 (f_X0_complete (p0 + 4) p2 x3 S) (fun S_1 => hs_b2 (f_X3_markTold p1 S_1) (fun r_5 S_3 => hs_bg r_5 (hs_l (hs_U S_3 p2 2 r_5) (fun S_6 => hs_b2 (f_X1_sumFor p2 (S_6 p1 3) (S_6 (p0 + 4) 2) S_6) (fun r_9 S_7 => hs_b2 (f_X3_sumTold p1 S_7) (fun r_12 S_10 => (if r_9 = r_12 then f_X4_fits_44  (1 : Int32) S_10 else f_X4_fits_44  (0 : Int32) S_10)))))))
def f_X4_fits (i0 : Nat) (i1 : Nat) (i2 : Nat) (a3 : Int32) (S : hs_M) : Option (Int32 × hs_M) := f_X4_fits_0 i0 i1 i2 a3 S
/-! HeaderSqueeze$Receiver.hasUseFor -/
def f_X4_hasUseFor_40 (y0 : Int32) (S : hs_M) : Option (Int32 × hs_M) := hs_bg y0 (some (y0, S))
def f_X4_hasUseFor_0 (p0 : Nat) (x1 : Int32) (S : hs_M) : Option (Int32 × hs_M) := (if x1 = (4 : Int32) then hs_bg (1 : Int32) (some ((1 : Int32), S)) else (if x1 = (3 : Int32) then (if (S p0 1) = 0 then f_X4_hasUseFor_40  (0 : Int32) S else f_X4_hasUseFor_40  (1 : Int32) S) else (if (S p0 1) = (2 : Int32) then f_X4_hasUseFor_40  (1 : Int32) S else f_X4_hasUseFor_40  (0 : Int32) S)))
def f_X4_hasUseFor (i0 : Nat) (a1 : Int32) (S : hs_M) : Option (Int32 × hs_M) := f_X4_hasUseFor_0 i0 a1 S
/-! HeaderSqueeze$Receiver.makeMoving -/
def f_X4_makeMoving_51 (p0 : Nat) (p1 : Nat) (p2 : Nat) (x3 : Int32) (S : hs_M) : Option (Int32 × hs_M) := hs_b1 (f_X3_readMoving p1 p2 S) (fun S_1 => hs_b2 (f_X1_sumFor p2 (S_1 p1 3) x3 S_1) (fun r_5 S_3 => hs_b2 (f_X3_sumTold p1 S_3) (fun r_8 S_6 => (if r_5 = r_8 then hs_b1 (f_X0_follow (p0 + 4) p2 x3 S_6) (fun S_9 => some ((1 : Int32), S_9)) else some ((0 : Int32), S_6)))))
def f_X4_makeMoving_0 (p0 : Nat) (p1 : Nat) (p2 : Nat) (S : hs_M) : Option (Int32 × hs_M) := hs_l (S (p0 + 4) 2) (fun x_1 => (if (S p1 3) = (4 : Int32) then hs_b2 (f_X3_strideTold p1 S) (fun r_6 S_4 => hs_b1 (f_X3_readFixed p1 p2 S_4) (fun S_7 => f_X4_makeMoving_51  p0 p1 p2 r_6 S_7)) else hs_l (hs_U S p2 0 (S (p0 + 4) 0)) (fun S_2 => hs_l (hs_U S_2 p2 1 (S_2 (p0 + 4) 1)) (fun S_3 => f_X4_makeMoving_51  p0 p1 p2 x_1 S_3))))
def f_X4_makeMoving (i0 : Nat) (i1 : Nat) (i2 : Nat) (S : hs_M) : Option (Int32 × hs_M) := f_X4_makeMoving_0 i0 i1 i2 S
/-! HeaderSqueeze$Receiver.numberNear -/
def f_X4_numberNear_0 (x0 : Int32) (p1 : Nat) (S : hs_M) : Option (Int32 × hs_M) := hs_l (S p1 3) (fun x_1 => hs_ix x_1 (hs_sn 4) (hs_l (x0 - (hs_sv 4 x_1.toNatClampNeg)) (fun x_2 => hs_b2 (f_X3_lowTold p1 S) (fun r_5 S_3 => hs_l (S_3 p1 3) (fun x_6 => hs_ix x_6 (hs_sn 3) (hs_l ((r_5 - x_2) &&& (hs_sv 3 x_6.toNatClampNeg)) (fun x_7 => some (((x_2 + x_7) &&& (65535 : Int32)), S_3))))))))
def f_X4_numberNear (a0 : Int32) (i1 : Nat) (S : hs_M) : Option (Int32 × hs_M) := f_X4_numberNear_0 a0 i1 S
/-! HeaderSqueeze$Receiver.makeSmall -/
def f_X4_makeSmall_83 (y0 : Int32) (S : hs_M) : Option (Int32 × hs_M) := some (y0, S)
def f_X4_makeSmall_71 (y0 : Int32) (S : hs_M) : Option (Int32 × hs_M) := (if y0 = 0 then f_X4_makeSmall_83  (0 : Int32) S else f_X4_makeSmall_83  (2 : Int32) S)
def f_X4_makeSmall_66 (S : hs_M) : Option (Int32 × hs_M) := f_X4_makeSmall_71  (1 : Int32) S
def f_X4_makeSmall_0 (p0 : Nat) (p1 : Nat) (p2 : Nat) (S : hs_M) : Option (Int32 × hs_M) := hs_b2 (f_X4_numberNear (S p0 2) p1 S) (fun r_3 S_1 => hs_b2 (f_X4_fits p0 p1 p2 r_3 S_1) (fun r_6 S_4 => (if r_6 = 0 then hs_l (S_4 p1 3) (fun x_7 => hs_ix x_7 (hs_sn 3) (hs_l (((r_3 + (hs_sv 3 x_7.toNatClampNeg)) + (1 : Int32)) &&& (65535 : Int32)) (fun x_8 => hs_b2 (f_X4_fits p0 p1 p2 x_8 S_4) (fun r_11 S_9 => (if r_11 = 0 then hs_b2 (f_X4_numberNear (S_9 p0 3) p1 S_9) (fun r_14 S_12 => hs_b2 (f_X4_fits p0 p1 p2 r_14 S_12) (fun r_17 S_15 => (if r_17 = 0 then f_X4_makeSmall_71  (0 : Int32) S_15 else f_X4_makeSmall_66   S_15))) else f_X4_makeSmall_66   S_9))))) else some ((1 : Int32), S_4))))
def f_X4_makeSmall (i0 : Nat) (i1 : Nat) (i2 : Nat) (S : hs_M) : Option (Int32 × hs_M) := f_X4_makeSmall_0 i0 i1 i2 S
/-! HeaderSqueeze$Receiver.noteFailure -/
def f_X4_noteFailure_37 (S : hs_M) : Option hs_M := some S
def f_X4_noteFailure_0 (p0 : Nat) (S : hs_M) : Option hs_M := hs_l (hs_U S p0 4 ((S p0 4) + (1 : Int32))) (fun S_1 => (if (S_1 p0 4) = (3 : Int32) then hs_l (hs_U S_1 p0 4 (0 : Int32)) (fun S_2 => hs_l (hs_U S_2 p0 1 (hs_max ((S_2 p0 1) - (1 : Int32)) (0 : Int32))) (fun S_3 => f_X4_noteFailure_37   S_3)) else f_X4_noteFailure_37   S_1))
def f_X4_noteFailure (i0 : Nat) (S : hs_M) : Option hs_M := f_X4_noteFailure_0 i0 S
/-! HeaderSqueeze$Receiver.noteMade -/
def f_X4_noteMade_16 (p0 : Nat) (x1 : Int32) (q0 : Nat) (y1 : Int32) (S : hs_M) : Option hs_M := hs_l (hs_U S q0 3 y1) (fun S_1 => hs_l (hs_U S_1 p0 2 x1) (fun S_2 => hs_l (hs_U S_2 p0 1 (2 : Int32)) (fun S_3 => hs_l (hs_U S_3 p0 4 (0 : Int32)) (fun S_4 => some S_4))))
def f_X4_noteMade_0 (p0 : Nat) (x1 : Int32) (S : hs_M) : Option hs_M := (if (S p0 1) = 0 then f_X4_noteMade_16  p0 x1 p0 x1 S else f_X4_noteMade_16  p0 x1 p0 (S p0 2) S)
def f_X4_noteMade (i0 : Nat) (a1 : Int32) (S : hs_M) : Option hs_M := f_X4_noteMade_0 i0 a1 S
/-! HeaderSqueeze$Receiver.take -/
def f_X4_take_43 (x3 : Int32) (S : hs_M) : Option (Int32 × hs_M) := some (x3, S)
def f_X4_take_23 (p0 : Nat) (p2 : Nat) (y0 : Int32) (S : hs_M) : Option (Int32 × hs_M) := (if y0 = 0 then hs_b1 (f_X4_noteFailure p0 S) (fun S_3 => f_X4_take_43  y0 S_3) else hs_b1 (f_X4_noteMade p0 (S p2 3) S) (fun S_1 => f_X4_take_43  y0 S_1))
def f_X4_take_0 (p0 : Nat) (p1 : Nat) (p2 : Nat) (S : hs_M) : Option (Int32 × hs_M) := (if (3 : Int32) ≤ (S p1 3) then hs_b2 (f_X4_makeMoving p0 p1 p2 S) (fun r_3 S_1 => f_X4_take_23  p0 p2 r_3 S_1) else hs_b2 (f_X4_makeSmall p0 p1 p2 S) (fun r_6 S_4 => f_X4_take_23  p0 p2 r_6 S_4))
def f_X4_take (i0 : Nat) (i1 : Nat) (i2 : Nat) (S : hs_M) : Option (Int32 × hs_M) := f_X4_take_0 i0 i1 i2 S
/-! HeaderSqueeze$Sender.enter -/
def f_X5_enter_0 (p0 : Nat) (x1 : Int32) (S : hs_M) : Option hs_M := hs_l (hs_U S p0 2 x1) (fun S_1 => hs_l (hs_U S_1 p0 3 (0 : Int32)) (fun S_2 => some S_2))
def f_X5_enter (i0 : Nat) (a1 : Int32) (S : hs_M) : Option hs_M := f_X5_enter_0 i0 a1 S
/-! HeaderSqueeze$Sender.isEnough -/
def fb_X5_isEnough_12 (K12 : Nat → Int32 → Int32 → Int32 → Int32 → hs_M → Option (Int32 × hs_M)) (p0 : Nat) (x1 : Int32) (x2 : Int32) (x3 : Int32) (x4 : Int32) (S : hs_M) : Option (Int32 × hs_M) := (if x3 ≤ x4 then hs_bg (1 : Int32) (some ((1 : Int32), S)) else hs_ix x4 (hs_N (p0 + 8)) (hs_ix x1 (hs_sn 4) (hs_l (((x2 - (S (p0 + 8) x4.toNatClampNeg)) + (hs_sv 4 x1.toNatClampNeg)) &&& (65535 : Int32)) (fun x_1 => hs_ix x1 (hs_sn 3) ((if x_1 ≤ (hs_sv 3 x1.toNatClampNeg) then hs_l (x4 + (1 : Int32)) (fun x_2 => K12 p0 x1 x2 x3 x_2 S) else hs_bg (0 : Int32) (some ((0 : Int32), S))))))))
def f_X5_isEnough_12  : Nat → Nat → Int32 → Int32 → Int32 → Int32 → hs_M → Option (Int32 × hs_M)
  | 0 => fun _ _ _ _ _ _ => none
  | n + 1 => fb_X5_isEnough_12  (f_X5_isEnough_12  n)
def f_X5_isEnough_0 (p0 : Nat) (x1 : Int32) (x2 : Int32) (S : hs_M) : Option (Int32 × hs_M) := hs_l (hs_min (S p0 7) (4 : Int32)) (fun x_1 => f_X5_isEnough_12  hs_fuel p0 x1 x2 x_1 (0 : Int32) S)
def f_X5_isEnough (i0 : Nat) (a1 : Int32) (a2 : Int32) (S : hs_M) : Option (Int32 × hs_M) := f_X5_isEnough_0 i0 a1 a2 S
/-! HeaderSqueeze$Sender.smallestKind -/
def f_X5_smallestKind_52 (y0 : Int32) (S : hs_M) : Option (Int32 × hs_M) := some (y0, S)
def f_X5_smallestKind_21 (p0 : Nat) (p1 : Nat) (S : hs_M) : Option (Int32 × hs_M) := hs_b2 (f_X5_isEnough p0 (1 : Int32) (S p1 3) S) (fun r_3 S_1 => (if r_3 = 0 then hs_b2 (f_X5_isEnough p0 (2 : Int32) (S_1 p1 3) S_1) (fun r_6 S_4 => (if r_6 = 0 then f_X5_smallestKind_52  (3 : Int32) S_4 else f_X5_smallestKind_52  (2 : Int32) S_4)) else some ((1 : Int32), S_1)))
def f_X5_smallestKind_0 (p0 : Nat) (p1 : Nat) (S : hs_M) : Option (Int32 × hs_M) := (if (S p1 2) = 0 then hs_b2 (f_X5_isEnough p0 (0 : Int32) (S p1 3) S) (fun r_3 S_1 => (if r_3 = 0 then f_X5_smallestKind_21  p0 p1 S_1 else some ((0 : Int32), S_1))) else f_X5_smallestKind_21  p0 p1 S)
def f_X5_smallestKind (i0 : Nat) (i1 : Nat) (S : hs_M) : Option (Int32 × hs_M) := f_X5_smallestKind_0 i0 i1 S
/-! HeaderSqueeze$Sender.chooseKind -/
def f_X5_chooseKind_76 (p0 : Nat) (p1 : Nat) (S : hs_M) : Option (Int32 × hs_M) := hs_b1 (f_X0_follow (p0 + 4) p1 (S p0 1) S) (fun S_1 => hs_bg (1 : Int32) (hs_l (hs_U S_1 p0 5 (1 : Int32)) (fun S_3 => hs_l (S_3 p0 2) (fun x_4 => (if x_4 = 0 then some ((4 : Int32), S_3) else (if x_4 = 1 then some ((3 : Int32), S_3) else hs_b2 (f_X5_smallestKind p0 p1 S_3) (fun r_9 S_7 => some (r_9, S_7))))))))
def f_X5_chooseKind_73 (p0 : Nat) (p1 : Nat) (q0 : Nat) (y1 : Int32) (S : hs_M) : Option (Int32 × hs_M) := hs_b1 (f_X5_enter q0 y1 S) (fun S_1 => f_X5_chooseKind_76  p0 p1 S_1)
def f_X5_chooseKind_41 (p0 : Nat) (p1 : Nat) (S : hs_M) : Option (Int32 × hs_M) := hs_b1 (f_X5_enter p0 (0 : Int32) S) (fun S_1 => f_X5_chooseKind_76  p0 p1 S_1)
def f_X5_chooseKind_0 (p0 : Nat) (p1 : Nat) (S : hs_M) : Option (Int32 × hs_M) := (if (S p0 5) = 0 then f_X5_chooseKind_41  p0 p1 S else hs_b2 (f_X0_isOf (p0 + 4) p1 S) (fun r_3 S_1 => (if r_3 = 0 then f_X5_chooseKind_41  p0 p1 S_1 else (if (S_1 (p0 + 4) 2) = (S_1 p0 1) then (if (S_1 p0 4) = (20 : Int32) then f_X5_chooseKind_41  p0 p1 S_1 else hs_b2 (f_X0_goesAlong (p0 + 4) p1 S_1) (fun r_6 S_4 => (if r_6 = 0 then (if (S_4 p0 2) = 0 then f_X5_chooseKind_73  p0 p1 p0 (0 : Int32) S_4 else f_X5_chooseKind_73  p0 p1 p0 (1 : Int32) S_4) else f_X5_chooseKind_76  p0 p1 S_4))) else f_X5_chooseKind_41  p0 p1 S_1))))
def f_X5_chooseKind (i0 : Nat) (i1 : Nat) (S : hs_M) : Option (Int32 × hs_M) := f_X5_chooseKind_0 i0 i1 S
/-! HeaderSqueeze$Sender.noteSent -/
def f_X5_noteSent_72 (S : hs_M) : Option hs_M := some S
def f_X5_noteSent_16 (p0 : Nat) (x2 : Int32) (q0 : Nat) (y1 : Int32) (S : hs_M) : Option hs_M := hs_l (hs_U S q0 4 y1) (fun S_1 => hs_ix ((S_1 p0 7) &&& (3 : Int32)) (hs_N (p0 + 8)) (hs_l (hs_U S_1 (p0 + 8) ((S_1 p0 7) &&& (3 : Int32)).toNatClampNeg x2) (fun S_2 => hs_l (hs_U S_2 p0 7 ((S_2 p0 7) + (1 : Int32))) (fun S_3 => hs_l (hs_U S_3 p0 3 ((S_3 p0 3) + (1 : Int32))) (fun S_4 => (if (S_4 p0 2) = (2 : Int32) then f_X5_noteSent_72   S_4 else (if (S_4 p0 3) = (3 : Int32) then hs_b1 (f_X5_enter p0 (2 : Int32) S_4) (fun S_5 => f_X5_noteSent_72   S_5) else f_X5_noteSent_72   S_4)))))))
def f_X5_noteSent_0 (p0 : Nat) (x1 : Int32) (x2 : Int32) (S : hs_M) : Option hs_M := (if x1 = (4 : Int32) then f_X5_noteSent_16  p0 x2 p0 (0 : Int32) S else f_X5_noteSent_16  p0 x2 p0 ((S p0 4) + (1 : Int32)) S)
def f_X5_noteSent (i0 : Nat) (a1 : Int32) (a2 : Int32) (S : hs_M) : Option hs_M := f_X5_noteSent_0 i0 a1 a2 S
/-! HeaderSqueeze.isNoPacket -/
def f_X6_isNoPacket_20 (y0 : Int32) (S : hs_M) : Option (Int32 × hs_M) := hs_bg y0 (some (y0, S))
def f_X6_isNoPacket_15 (S : hs_M) : Option (Int32 × hs_M) := f_X6_isNoPacket_20  (1 : Int32) S
def f_X6_isNoPacket_0 (x1 : Int32) (S : hs_M) : Option (Int32 × hs_M) := (if x1 < 0 then f_X6_isNoPacket_15   S else (if x1 < (S 4 1) then f_X6_isNoPacket_20  (0 : Int32) S else f_X6_isNoPacket_15   S))
def f_X6_isNoPacket (a1 : Int32) (S : hs_M) : Option (Int32 × hs_M) := f_X6_isNoPacket_0 a1 S
/-! HeaderSqueeze.isNoByte -/
def f_X6_isNoByte_25 (y0 : Int32) (S : hs_M) : Option (Int32 × hs_M) := hs_bg y0 (some (y0, S))
def f_X6_isNoByte_20 (S : hs_M) : Option (Int32 × hs_M) := f_X6_isNoByte_25  (1 : Int32) S
def f_X6_isNoByte_0 (x1 : Int32) (x2 : Int32) (S : hs_M) : Option (Int32 × hs_M) := (if x2 < 0 then f_X6_isNoByte_20   S else hs_ix x1 (hs_N 5) (hs_l (S 5 x1.toNatClampNeg).toNatClampNeg (fun p_1 => hs_kg p_1 3 ((if x2 < (S p_1 1) then f_X6_isNoByte_25  (0 : Int32) S else f_X6_isNoByte_20   S)))))
def f_X6_isNoByte (a1 : Int32) (a2 : Int32) (S : hs_M) : Option (Int32 × hs_M) := f_X6_isNoByte_0 a1 a2 S
/-! HeaderSqueeze.byteAt -/
def f_X6_byteAt_17 (S : hs_M) : Option ((Nat × Int32) × hs_M) := some ((1, 0), S)
def f_X6_byteAt_0 (x1 : Int32) (x2 : Int32) (S : hs_M) : Option ((Nat × Int32) × hs_M) := hs_b2 (f_X6_isNoPacket x1 S) (fun r_3 S_1 => (if r_3 = 0 then hs_b2 (f_X6_isNoByte x1 x2 S_1) (fun r_6 S_4 => (if r_6 = 0 then hs_ix x1 (hs_N 5) (hs_l (S_4 5 x1.toNatClampNeg).toNatClampNeg (fun p_7 => hs_kg p_7 3 (hs_ix x2 (hs_N (p_7 + 9)) (some ((0, (S_4 (p_7 + 9) x2.toNatClampNeg)), S_4))))) else f_X6_byteAt_17   S_4)) else f_X6_byteAt_17   S_1))
def f_X6_byteAt (a1 : Int32) (a2 : Int32) (S : hs_M) : Option ((Nat × Int32) × hs_M) := f_X6_byteAt_0 a1 a2 S
/-! HeaderSqueeze.count -/
def f_X6_count_10 (S : hs_M) : Option ((Nat × Int32) × hs_M) := some ((2, 0), S)
def f_X6_count_0 (x1 : Int32) (S : hs_M) : Option ((Nat × Int32) × hs_M) := (if x1 < 0 then f_X6_count_10   S else (if x1 < (11 : Int32) then hs_ix x1 (hs_N 46) (some ((0, (S 46 x1.toNatClampNeg)), S)) else f_X6_count_10   S))
def f_X6_count (a1 : Int32) (S : hs_M) : Option ((Nat × Int32) × hs_M) := f_X6_count_0 a1 S
/-! HeaderSqueeze.keepTrial -/
def f_X6_keepTrial_0 (S : hs_M) : Option hs_M := hs_l (S 0 5).toNatClampNeg (fun p_1 => hs_kg p_1 1 (hs_l (S 0 6).toNatClampNeg (fun p_3 => hs_kg p_3 1 (hs_l (hs_U S 0 5 (nI p_3)) (fun S_5 => hs_l (hs_U S_5 0 6 (nI p_1)) (fun S_6 => some S_6))))))
def f_X6_keepTrial  (S : hs_M) : Option hs_M := f_X6_keepTrial_0  S
/-! HeaderSqueeze.deliver -/
def f_X6_deliver_0 (x1 : Int32) (S : hs_M) : Option ((Nat × Int32) × hs_M) := hs_b2 (f_X6_isNoPacket x1 S) (fun r_3 S_1 => (if r_3 = 0 then hs_b2 (f_X2_takeOff x1 S_1) (fun r_6 S_4 => hs_kg r_6 3 (hs_b1 (f_X3_read r_6 S_4) (fun S_8 => (if (S_8 r_6 3) = (-1 : Int32) then hs_ix (8 : Int32) (hs_N 46) (hs_ix (8 : Int32) (hs_N 46) (hs_l (hs_U S_8 46 (8 : Int32).toNatClampNeg ((S_8 46 (8 : Int32).toNatClampNeg) + (1 : Int32))) (fun S_26 => some ((2, 0), S_26)))) else hs_l (S_8 r_6 2) (fun x_10 => hs_ix x_10 (hs_N 37) (hs_b2 (f_X4_hasUseFor (38 + x_10.toNatClampNeg) (S_8 r_6 3) S_8) (fun r_14 S_12 => (if r_14 = 0 then hs_ix (9 : Int32) (hs_N 46) (hs_ix (9 : Int32) (hs_N 46) (hs_l (hs_U S_12 46 (9 : Int32).toNatClampNeg ((S_12 46 (9 : Int32).toNatClampNeg) + (1 : Int32))) (fun S_25 => some ((3, 0), S_25)))) else hs_l (S_12 0 6).toNatClampNeg (fun p_15 => hs_kg p_15 1 (hs_b2 (f_X4_take (38 + x_10.toNatClampNeg) r_6 p_15 S_12) (fun r_19 S_17 => (if r_19 = 0 then hs_ix (10 : Int32) (hs_N 46) (hs_ix (10 : Int32) (hs_N 46) (hs_l (hs_U S_17 46 (10 : Int32).toNatClampNeg ((S_17 46 (10 : Int32).toNatClampNeg) + (1 : Int32))) (fun S_24 => some ((4, 0), S_24)))) else hs_b1 (f_X6_keepTrial S_17) (fun S_20 => hs_ix (6 : Int32) (hs_N 46) (hs_ix (6 : Int32) (hs_N 46) (hs_l (hs_U S_20 46 (6 : Int32).toNatClampNeg ((S_20 46 (6 : Int32).toNatClampNeg) + (1 : Int32))) (fun S_22 => (if r_19 = (2 : Int32) then hs_ix (7 : Int32) (hs_N 46) (hs_ix (7 : Int32) (hs_N 46) (hs_l (hs_U S_22 46 (7 : Int32).toNatClampNeg ((S_22 46 (7 : Int32).toNatClampNeg) + (1 : Int32))) (fun S_23 => some ((0, ((S_23 r_6 2) + (4 : Int32))), S_23)))) else some ((0, (S_22 r_6 2)), S_22)))))))))))))))))) else some ((1, 0), S_1)))
def f_X6_deliver (a1 : Int32) (S : hs_M) : Option ((Nat × Int32) × hs_M) := f_X6_deliver_0 a1 S
/-! HeaderSqueeze.isNotInTwoBytes -/
def f_X6_isNotInTwoBytes_15 (y0 : Int32) (S : hs_M) : Option (Int32 × hs_M) := hs_bg y0 (some (y0, S))
def f_X6_isNotInTwoBytes_10 (S : hs_M) : Option (Int32 × hs_M) := f_X6_isNotInTwoBytes_15  (1 : Int32) S
def f_X6_isNotInTwoBytes_0 (x0 : Int32) (S : hs_M) : Option (Int32 × hs_M) := (if x0 < 0 then f_X6_isNotInTwoBytes_10   S else (if x0 ≤ (65535 : Int32) then f_X6_isNotInTwoBytes_15  (0 : Int32) S else f_X6_isNotInTwoBytes_10   S))
def f_X6_isNotInTwoBytes (a0 : Int32) (S : hs_M) : Option (Int32 × hs_M) := f_X6_isNotInTwoBytes_0 a0 S
/-! HeaderSqueeze.head -/
def f_X6_head_17 (S : hs_M) : Option ((Nat × Int32) × hs_M) := some ((2, 0), S)
def f_X6_head_0 (x1 : Int32) (x2 : Int32) (x3 : Int32) (S : hs_M) : Option ((Nat × Int32) × hs_M) := hs_b2 (f_X6_isNotInTwoBytes x1 S) (fun r_3 S_1 => (if r_3 = 0 then (if x2 < 0 then f_X6_head_17   S_1 else (if x2 ≤ (127 : Int32) then hs_l (hs_U S_1 1 0 x1) (fun S_4 => hs_l (hs_U S_4 1 1 x2) (fun S_5 => hs_bg x3 (hs_l (hs_U S_5 1 2 x3) (fun S_6 => some ((0, 0), S_6))))) else f_X6_head_17   S_1)) else f_X6_head_17   S_1))
def f_X6_head (a1 : Int32) (a2 : Int32) (a3 : Int32) (S : hs_M) : Option ((Nat × Int32) × hs_M) := f_X6_head_0 a1 a2 a3 S
/-! HeaderSqueeze.isNoFlow -/
def f_X6_isNoFlow_14 (y0 : Int32) (S : hs_M) : Option (Int32 × hs_M) := hs_bg y0 (some (y0, S))
def f_X6_isNoFlow_9 (S : hs_M) : Option (Int32 × hs_M) := f_X6_isNoFlow_14  (1 : Int32) S
def f_X6_isNoFlow_0 (x0 : Int32) (S : hs_M) : Option (Int32 × hs_M) := (if x0 < 0 then f_X6_isNoFlow_9   S else (if x0 < (4 : Int32) then f_X6_isNoFlow_14  (0 : Int32) S else f_X6_isNoFlow_9   S))
def f_X6_isNoFlow (a0 : Int32) (S : hs_M) : Option (Int32 × hs_M) := f_X6_isNoFlow_0 a0 S
/-! HeaderSqueeze.line -/
def f_X6_line_0 (S : hs_M) : Option (Int32 × hs_M) := some ((S 4 1), S)
def f_X6_line  (S : hs_M) : Option (Int32 × hs_M) := f_X6_line_0  S
/-! HeaderSqueeze.lose -/
def f_X6_lose_0 (x1 : Int32) (S : hs_M) : Option ((Nat × Int32) × hs_M) := hs_b2 (f_X6_isNoPacket x1 S) (fun r_3 S_1 => (if r_3 = 0 then hs_b2 (f_X2_takeOff x1 S_1) (fun r_6 S_4 => hs_kg r_6 3 (some ((0, 0), S_4))) else some ((1, 0), S_1)))
def f_X6_lose (a1 : Int32) (S : hs_M) : Option ((Nat × Int32) × hs_M) := f_X6_lose_0 a1 S
/-! HeaderSqueeze.made -/
def f_X6_made_10 (S : hs_M) : Option ((Nat × Int32) × hs_M) := some ((1, 0), S)
def f_X6_made_0 (x1 : Int32) (S : hs_M) : Option ((Nat × Int32) × hs_M) := (if x1 < 0 then f_X6_made_10   S else (if x1 < (11 : Int32) then hs_l (S 0 5).toNatClampNeg (fun p_1 => hs_kg p_1 1 (hs_b2 (f_X1_part p_1 x1 S) (fun r_5 S_3 => some ((0, r_5), S_3)))) else f_X6_made_10   S))
def f_X6_made (a1 : Int32) (S : hs_M) : Option ((Nat × Int32) × hs_M) := f_X6_made_0 a1 S
/-! HeaderSqueeze.receiver -/
def f_X6_receiver_0 (x1 : Int32) (x2 : Int32) (S : hs_M) : Option ((Nat × Int32) × hs_M) := hs_b2 (f_X6_isNoFlow x1 S) (fun r_3 S_1 => (if r_3 = 0 then hs_ix x1 (hs_N 37) ((if x2 = 0 then some ((0, (S_1 (38 + x1.toNatClampNeg) 1)), S_1) else (if x2 = 1 then some ((0, (S_1 (38 + x1.toNatClampNeg) 2)), S_1) else (if x2 = 2 then some ((0, (S_1 (38 + x1.toNatClampNeg) 3)), S_1) else (if x2 = 3 then some ((0, (S_1 (38 + x1.toNatClampNeg) 4)), S_1) else some ((2, 0), S_1)))))) else some ((1, 0), S_1)))
def f_X6_receiver (a1 : Int32) (a2 : Int32) (S : hs_M) : Option ((Nat × Int32) × hs_M) := f_X6_receiver_0 a1 a2 S
/-! HeaderSqueeze.send -/
def f_X6_send_161 (y0 : Int32) (S : hs_M) : Option ((Nat × Int32) × hs_M) := some ((0, y0), S)
def f_X6_send_30 (S : hs_M) : Option ((Nat × Int32) × hs_M) := some ((2, 0), S)
def f_X6_send_0 (x1 : Int32) (x2 : Int32) (x3 : Int32) (x4 : Int32) (S : hs_M) : Option ((Nat × Int32) × hs_M) := hs_b2 (f_X6_isNoFlow x1 S) (fun r_3 S_1 => (if r_3 = 0 then hs_b2 (f_X6_isNotInTwoBytes x2 S_1) (fun r_6 S_4 => (if r_6 = 0 then hs_b2 (f_X6_isNotInTwoBytes x4 S_4) (fun r_9 S_7 => (if r_9 = 0 then hs_l (hs_U S_7 1 3 x2) (fun S_10 => hs_l (hs_U S_10 1 4 x3) (fun S_11 => hs_l (hs_U S_11 1 5 x4) (fun S_12 => hs_ix x1 (hs_N 24) (hs_b2 (f_X5_chooseKind (25 + x1.toNatClampNeg) 1 S_12) (fun r_16 S_14 => hs_b2 (f_X2_rowBehind S_14) (fun r_19 S_17 => hs_kg r_19 3 (hs_b1 (f_X3_write r_19 x1 r_16 1 (S_17 (25 + x1.toNatClampNeg) 1) S_17) (fun S_21 => hs_b1 (f_X5_noteSent (25 + x1.toNatClampNeg) r_16 x2 S_21) (fun S_23 => hs_ix r_16 (hs_N 46) (hs_ix r_16 (hs_N 46) (hs_l (hs_U S_23 46 r_16.toNatClampNeg ((S_23 46 r_16.toNatClampNeg) + (1 : Int32))) (fun S_25 => hs_ix (5 : Int32) (hs_N 46) (hs_ix (5 : Int32) (hs_N 46) (hs_l (hs_U S_25 46 (5 : Int32).toNatClampNeg ((S_25 46 (5 : Int32).toNatClampNeg) + (S_25 r_19 1))) (fun S_26 => hs_b2 (f_X2_addRowBehind S_26) (fun r_29 S_27 => (if r_29 = 0 then f_X6_send_161  (r_16 + (8 : Int32)) S_27 else f_X6_send_161  r_16 S_27))))))))))))))))) else f_X6_send_30   S_7)) else f_X6_send_30   S_4)) else some ((1, 0), S_1)))
def f_X6_send (a1 : Int32) (a2 : Int32) (a3 : Int32) (a4 : Int32) (S : hs_M) : Option ((Nat × Int32) × hs_M) := f_X6_send_0 a1 a2 a3 a4 S
/-! HeaderSqueeze.sender -/
def f_X6_sender_0 (x1 : Int32) (x2 : Int32) (S : hs_M) : Option ((Nat × Int32) × hs_M) := hs_b2 (f_X6_isNoFlow x1 S) (fun r_3 S_1 => (if r_3 = 0 then hs_ix x1 (hs_N 24) ((if x2 = 0 then some ((0, (S_1 (25 + x1.toNatClampNeg) 2)), S_1) else (if x2 = 1 then some ((0, (S_1 (25 + x1.toNatClampNeg) 3)), S_1) else (if x2 = 2 then some ((0, (S_1 (25 + x1.toNatClampNeg) 4)), S_1) else (if x2 = 3 then some ((0, (S_1 ((25 + x1.toNatClampNeg) + 4) 3)), S_1) else (if x2 = 4 then some ((0, (S_1 ((25 + x1.toNatClampNeg) + 4) 4)), S_1) else some ((2, 0), S_1))))))) else some ((1, 0), S_1)))
def f_X6_sender (a1 : Int32) (a2 : Int32) (S : hs_M) : Option ((Nat × Int32) × hs_M) := f_X6_sender_0 a1 a2 S
/-! HeaderSqueeze.size -/
def f_X6_size_0 (x1 : Int32) (S : hs_M) : Option ((Nat × Int32) × hs_M) := hs_b2 (f_X6_isNoPacket x1 S) (fun r_3 S_1 => (if r_3 = 0 then hs_ix x1 (hs_N 5) (hs_l (S_1 5 x1.toNatClampNeg).toNatClampNeg (fun p_4 => hs_kg p_4 3 (some ((0, (S_1 p_4 1)), S_1)))) else some ((1, 0), S_1)))
def f_X6_size (a1 : Int32) (S : hs_M) : Option ((Nat × Int32) × hs_M) := f_X6_size_0 a1 S
/-! HeaderSqueeze.spoil -/
def f_X6_spoil_36 (S : hs_M) : Option ((Nat × Int32) × hs_M) := some ((2, 0), S)
def f_X6_spoil_17 (S : hs_M) : Option ((Nat × Int32) × hs_M) := some ((1, 0), S)
def f_X6_spoil_0 (x1 : Int32) (x2 : Int32) (x3 : Int32) (S : hs_M) : Option ((Nat × Int32) × hs_M) := hs_b2 (f_X6_isNoPacket x1 S) (fun r_3 S_1 => (if r_3 = 0 then hs_b2 (f_X6_isNoByte x1 x2 S_1) (fun r_6 S_4 => (if r_6 = 0 then (if x3 < 0 then f_X6_spoil_36   S_4 else (if x3 ≤ (255 : Int32) then hs_ix x1 (hs_N 5) (hs_l (S_4 5 x1.toNatClampNeg).toNatClampNeg (fun p_7 => hs_kg p_7 3 (hs_ix x2 (hs_N (p_7 + 9)) (hs_ix x2 (hs_N (p_7 + 9)) (hs_l (hs_U S_4 (p_7 + 9) x2.toNatClampNeg ((S_4 (p_7 + 9) x2.toNatClampNeg) ^^^ x3)) (fun S_9 => some ((0, 0), S_9))))))) else f_X6_spoil_36   S_4)) else f_X6_spoil_17   S_4)) else f_X6_spoil_17   S_1))
def f_X6_spoil (a1 : Int32) (a2 : Int32) (a3 : Int32) (S : hs_M) : Option ((Nat × Int32) × hs_M) := f_X6_spoil_0 a1 a2 a3 S
/-! HeaderSqueeze.stride -/
def f_X6_stride_0 (x1 : Int32) (x2 : Int32) (S : hs_M) : Option ((Nat × Int32) × hs_M) := hs_b2 (f_X6_isNoFlow x1 S) (fun r_3 S_1 => (if r_3 = 0 then hs_b2 (f_X6_isNotInTwoBytes x2 S_1) (fun r_6 S_4 => (if r_6 = 0 then hs_ix x1 (hs_N 24) (hs_l (hs_U S_4 (25 + x1.toNatClampNeg) 1 x2) (fun S_8 => some ((0, 0), S_8))) else some ((2, 0), S_4))) else some ((1, 0), S_1)))
def f_X6_stride (a1 : Int32) (a2 : Int32) (S : hs_M) : Option ((Nat × Int32) × hs_M) := f_X6_stride_0 a1 a2 S
/-! HeaderSqueezeModel.backOf -/
def f_X7_backOf_19 (y0 : Int32) (S : hs_M) : Option (Int32 × hs_M) := some (y0, S)
def f_X7_backOf_0 (x1 : Int32) (S : hs_M) : Option (Int32 × hs_M) := (if x1 = 0 then f_X7_backOf_19  (1 : Int32) S else (if x1 = (1 : Int32) then f_X7_backOf_19  (3 : Int32) S else f_X7_backOf_19  (31 : Int32) S))
def f_X7_backOf (a1 : Int32) (S : hs_M) : Option (Int32 × hs_M) := f_X7_backOf_0 a1 S
/-! HeaderSqueezeModel.bitsOf -/
def f_X7_bitsOf_20 (y0 : Int32) (S : hs_M) : Option (Int32 × hs_M) := some (y0, S)
def f_X7_bitsOf_0 (x1 : Int32) (S : hs_M) : Option (Int32 × hs_M) := (if x1 = 0 then f_X7_bitsOf_20  (4 : Int32) S else (if x1 = (1 : Int32) then f_X7_bitsOf_20  (6 : Int32) S else f_X7_bitsOf_20  (10 : Int32) S))
def f_X7_bitsOf (a1 : Int32) (S : hs_M) : Option (Int32 × hs_M) := f_X7_bitsOf_0 a1 S
/-! HeaderSqueezeModel.sizeOf -/
def f_X7_sizeOf_38 (y0 : Int32) (S : hs_M) : Option (Int32 × hs_M) := some (y0, S)
def f_X7_sizeOf_0 (x1 : Int32) (S : hs_M) : Option (Int32 × hs_M) := (if x1 = 0 then f_X7_sizeOf_38  (1 : Int32) S else (if x1 = (1 : Int32) then f_X7_sizeOf_38  (2 : Int32) S else (if x1 = (2 : Int32) then f_X7_sizeOf_38  (3 : Int32) S else (if x1 = (3 : Int32) then f_X7_sizeOf_38  (11 : Int32) S else f_X7_sizeOf_38  (16 : Int32) S))))
def f_X7_sizeOf (a1 : Int32) (S : hs_M) : Option (Int32 × hs_M) := f_X7_sizeOf_0 a1 S
/-! HeaderSqueezeModel.broken -/
def f_X7_broken_107 (y0 : Int32) (S : hs_M) : Option (Int32 × hs_M) := hs_bg y0 (some (y0, S))
def f_X7_broken_106 (S : hs_M) : Option (Int32 × hs_M) := f_X7_broken_107  (0 : Int32) S
def f_X7_broken_102 (S : hs_M) : Option (Int32 × hs_M) := f_X7_broken_107  (1 : Int32) S
def f_X7_broken_68 (y0 : Int32) (S : hs_M) : Option (Int32 × hs_M) := hs_bg y0 (some (y0, S))
def f_X7_broken_43 (y0 : Int32) (S : hs_M) : Option (Int32 × hs_M) := hs_bg y0 (some (y0, S))
def f_X7_broken_18 (S : hs_M) : Option (Int32 × hs_M) := hs_bg (1 : Int32) (some ((1 : Int32), S))
def f_X7_broken_0 (x1 : Int32) (x2 : Int32) (S : hs_M) : Option (Int32 × hs_M) := (if x1 < 0 then f_X7_broken_18   S else hs_b2 (f_X7_sizeOf x1 S) (fun r_3 S_1 => (if ((S 100 31) - x2) = r_3 then (if x1 = (2 : Int32) then hs_l (x2 + (1 : Int32)) (fun x_7 => hs_ix x_7 (hs_N 127) ((if ((S_1 127 x_7.toNatClampNeg) &&& (3 : Int32)) = 0 then f_X7_broken_43  (0 : Int32) S_1 else f_X7_broken_43  (1 : Int32) S_1))) else (if x1 = (3 : Int32) then hs_l (x2 + (1 : Int32)) (fun x_6 => hs_ix x_6 (hs_N 127) ((if ((S_1 127 x_6.toNatClampNeg) &&& (127 : Int32)) = 0 then f_X7_broken_68  (0 : Int32) S_1 else f_X7_broken_68  (1 : Int32) S_1))) else (if x1 = (4 : Int32) then hs_l (x2 + (6 : Int32)) (fun x_4 => hs_ix x_4 (hs_N 127) ((if ((S_1 127 x_4.toNatClampNeg) &&& (127 : Int32)) = 0 then hs_l (x2 + (3 : Int32)) (fun x_5 => hs_ix x_5 (hs_N 127) ((if (S_1 127 x_5.toNatClampNeg) ≤ (127 : Int32) then f_X7_broken_106   S_1 else f_X7_broken_102   S_1))) else f_X7_broken_102   S_1))) else f_X7_broken_106   S_1))) else f_X7_broken_18   S_1)))
def f_X7_broken (a1 : Int32) (a2 : Int32) (S : hs_M) : Option (Int32 × hs_M) := f_X7_broken_0 a1 a2 S
/-! HeaderSqueezeModel.noPacket -/
def f_X7_noPacket_17 (y0 : Int32) (S : hs_M) : Option (Int32 × hs_M) := hs_bg y0 (some (y0, S))
def f_X7_noPacket_12 (S : hs_M) : Option (Int32 × hs_M) := f_X7_noPacket_17  (1 : Int32) S
def f_X7_noPacket_0 (x1 : Int32) (S : hs_M) : Option (Int32 × hs_M) := (if x1 < 0 then f_X7_noPacket_12   S else (if x1 < (S 100 16) then f_X7_noPacket_17  (0 : Int32) S else f_X7_noPacket_12   S))
def f_X7_noPacket (a1 : Int32) (S : hs_M) : Option (Int32 × hs_M) := f_X7_noPacket_0 a1 S
/-! HeaderSqueezeModel.noByte -/
def f_X7_noByte_27 (y0 : Int32) (S : hs_M) : Option (Int32 × hs_M) := hs_bg y0 (some (y0, S))
def f_X7_noByte_22 (S : hs_M) : Option (Int32 × hs_M) := f_X7_noByte_27  (1 : Int32) S
def f_X7_noByte_0 (x1 : Int32) (x2 : Int32) (S : hs_M) : Option (Int32 × hs_M) := hs_b2 (f_X7_noPacket x1 S) (fun r_3 S_1 => (if r_3 = 0 then (if x2 < 0 then f_X7_noByte_22   S_1 else hs_ix x1 (hs_N 113) ((if x2 < (S_1 113 x1.toNatClampNeg) then f_X7_noByte_27  (0 : Int32) S_1 else f_X7_noByte_22   S_1))) else f_X7_noByte_22   S_1))
def f_X7_noByte (a1 : Int32) (a2 : Int32) (S : hs_M) : Option (Int32 × hs_M) := f_X7_noByte_0 a1 a2 S
/-! HeaderSqueezeModel.byteAt -/
def f_X7_byteAt_40 (y0 : Int32) (S : hs_M) : Option (Int32 × hs_M) := some (y0, S)
def f_X7_byteAt_15 (x1 : Int32) (x2 : Int32) (y1 : Int32) (S : hs_M) : Option (Int32 × hs_M) := hs_l (hs_U S 100 0 y1) (fun S_1 => (if (S_1 100 0) = 0 then hs_l (((20 : Int32) * x1) + x2) (fun x_2 => hs_ix x_2 (hs_N 114) (f_X7_byteAt_40  (S_1 114 x_2.toNatClampNeg) S_1)) else f_X7_byteAt_40  (0 : Int32) S_1))
def f_X7_byteAt_0 (x1 : Int32) (x2 : Int32) (S : hs_M) : Option (Int32 × hs_M) := hs_b2 (f_X7_noByte x1 x2 S) (fun r_3 S_1 => (if r_3 = 0 then f_X7_byteAt_15  x1 x2 (0 : Int32) S_1 else f_X7_byteAt_15  x1 x2 (1 : Int32) S_1))
def f_X7_byteAt (a1 : Int32) (a2 : Int32) (S : hs_M) : Option (Int32 × hs_M) := f_X7_byteAt_0 a1 a2 S
/-! HeaderSqueezeModel.enough -/
def f_X7_enough_63 (K6 : Int32 → Int32 → Int32 → Int32 → Int32 → hs_M → Option (Int32 × hs_M)) (x1 : Int32) (x2 : Int32) (x3 : Int32) (x5 : Int32) (y0 : Int32) (S : hs_M) : Option (Int32 × hs_M) := hs_l (x5 + (1 : Int32)) (fun x_1 => K6 x1 x2 x3 y0 x_1 S)
def f_X7_enough_62 (K6 : Int32 → Int32 → Int32 → Int32 → Int32 → hs_M → Option (Int32 × hs_M)) (x1 : Int32) (x2 : Int32) (x3 : Int32) (x5 : Int32) (S : hs_M) : Option (Int32 × hs_M) := f_X7_enough_63 K6 x1 x2 x3 x5 (0 : Int32) S
def fb_X7_enough_6 (K6 : Int32 → Int32 → Int32 → Int32 → Int32 → hs_M → Option (Int32 × hs_M)) (x1 : Int32) (x2 : Int32) (x3 : Int32) (x4 : Int32) (x5 : Int32) (S : hs_M) : Option (Int32 × hs_M) := hs_ix x1 (hs_N 111) ((if (S 111 x1.toNatClampNeg) ≤ x5 then hs_bg x4 (some (x4, S)) else hs_l (((4 : Int32) * x1) + x5) (fun x_1 => hs_ix x_1 (hs_N 112) (hs_b2 (f_X7_backOf x2 S) (fun r_4 S_2 => hs_l (((x3 - (S 112 x_1.toNatClampNeg)) + r_4) &&& (65535 : Int32)) (fun x_5 => (if x4 = 0 then f_X7_enough_62 K6 x1 x2 x3 x5 S_2 else hs_b2 (f_X7_bitsOf x2 S_2) (fun r_8 S_6 => (if ((1 : Int32) <<< (r_8 &&& 31)) ≤ x_5 then f_X7_enough_62 K6 x1 x2 x3 x5 S_6 else f_X7_enough_63 K6 x1 x2 x3 x5 (1 : Int32) S_6)))))))))
def f_X7_enough_6  : Nat → Int32 → Int32 → Int32 → Int32 → Int32 → hs_M → Option (Int32 × hs_M)
  | 0 => fun _ _ _ _ _ _ => none
  | n + 1 => fb_X7_enough_6  (f_X7_enough_6  n)
def f_X7_enough_0 (x1 : Int32) (x2 : Int32) (x3 : Int32) (S : hs_M) : Option (Int32 × hs_M) := f_X7_enough_6  hs_fuel x1 x2 x3 (1 : Int32) (0 : Int32) S
def f_X7_enough (a1 : Int32) (a2 : Int32) (a3 : Int32) (S : hs_M) : Option (Int32 × hs_M) := f_X7_enough_0 a1 a2 a3 S
/-! HeaderSqueezeModel.choose -/
def f_X7_choose_73 (y0 : Int32) (S : hs_M) : Option (Int32 × hs_M) := some (y0, S)
def f_X7_choose_44 (x1 : Int32) (x2 : Int32) (S : hs_M) : Option (Int32 × hs_M) := hs_b2 (f_X7_enough x1 (1 : Int32) x2 S) (fun r_3 S_1 => (if r_3 = 0 then hs_b2 (f_X7_enough x1 (2 : Int32) x2 S_1) (fun r_6 S_4 => (if r_6 = 0 then f_X7_choose_73  (3 : Int32) S_4 else f_X7_choose_73  (2 : Int32) S_4)) else f_X7_choose_73  (1 : Int32) S_1))
def f_X7_choose_24 (y0 : Int32) (S : hs_M) : Option (Int32 × hs_M) := some (y0, S)
def f_X7_choose_0 (x1 : Int32) (x2 : Int32) (S : hs_M) : Option (Int32 × hs_M) := hs_ix x1 (hs_N 108) ((if (2 : Int32) ≤ (S 108 x1.toNatClampNeg) then (if (S 100 3) = 0 then hs_b2 (f_X7_enough x1 (0 : Int32) x2 S) (fun r_3 S_1 => (if r_3 = 0 then f_X7_choose_44  x1 x2 S_1 else some ((0 : Int32), S_1))) else f_X7_choose_44  x1 x2 S) else hs_ix x1 (hs_N 108) ((if (S 108 x1.toNatClampNeg) = 0 then f_X7_choose_24  (4 : Int32) S else f_X7_choose_24  (3 : Int32) S))))
def f_X7_choose (a1 : Int32) (a2 : Int32) (S : hs_M) : Option (Int32 × hs_M) := f_X7_choose_0 a1 a2 S
/-! HeaderSqueezeModel.near -/
def f_X7_near_0 (x1 : Int32) (x2 : Int32) (x3 : Int32) (S : hs_M) : Option (Int32 × hs_M) := hs_b2 (f_X7_backOf x2 S) (fun r_3 S_1 => hs_l (x1 - r_3) (fun x_4 => hs_b2 (f_X7_bitsOf x2 S_1) (fun r_7 S_5 => hs_l ((x3 - x_4) &&& (((1 : Int32) <<< (r_7 &&& 31)) - (1 : Int32))) (fun x_8 => some (((x_4 + x_8) &&& (65535 : Int32)), S_5)))))
def f_X7_near (a1 : Int32) (a2 : Int32) (a3 : Int32) (S : hs_M) : Option (Int32 × hs_M) := f_X7_near_0 a1 a2 a3 S
/-! HeaderSqueezeModel.fill -/
def fb_X7_fill_68 (K68 : Int32 → Int32 → Int32 → hs_M → Option hs_M) (x5 : Int32) (x6 : Int32) (x7 : Int32) (S : hs_M) : Option hs_M := (if (4 : Int32) ≤ x7 then hs_ix (9 : Int32) (hs_N 126) (hs_l (hs_U S 126 (9 : Int32).toNatClampNeg (x6 / (256 : Int32))) (fun S_1 => hs_ix (10 : Int32) (hs_N 126) (hs_l (hs_U S_1 126 (10 : Int32).toNatClampNeg (hs_rem x6 (256 : Int32))) (fun S_2 => some S_2)))) else hs_ix ((5 : Int32) + x7) (hs_N 126) (hs_l (hs_U S 126 ((5 : Int32) + x7).toNatClampNeg ((x5 >>> (((24 : Int32) - ((8 : Int32) * x7)) &&& 31)) &&& (255 : Int32))) (fun S_3 => hs_l (x7 + (1 : Int32)) (fun x_4 => K68 x5 x6 x_4 S_3))))
def f_X7_fill_68  : Nat → Int32 → Int32 → Int32 → hs_M → Option hs_M
  | 0 => fun _ _ _ _ => none
  | n + 1 => fb_X7_fill_68  (f_X7_fill_68  n)
def f_X7_fill_39 (x4 : Int32) (x5 : Int32) (x6 : Int32) (y1 : Int32) (y2 : Int32) (y3 : Int32) (S : hs_M) : Option hs_M := hs_ix y1 (hs_N 126) (hs_l (hs_U S 126 y1.toNatClampNeg (y2 + y3)) (fun S_1 => hs_ix (3 : Int32) (hs_N 126) (hs_l (hs_U S_1 126 (3 : Int32).toNatClampNeg (x4 / (256 : Int32))) (fun S_2 => hs_ix (4 : Int32) (hs_N 126) (hs_l (hs_U S_2 126 (4 : Int32).toNatClampNeg (hs_rem x4 (256 : Int32))) (fun S_3 => f_X7_fill_68  hs_fuel x5 x6 (0 : Int32) S_3))))))
def f_X7_fill_0 (x1 : Int32) (x2 : Int32) (x3 : Int32) (x4 : Int32) (x5 : Int32) (x6 : Int32) (S : hs_M) : Option hs_M := hs_ix (0 : Int32) (hs_N 126) (hs_l (hs_U S 126 (0 : Int32).toNatClampNeg (x1 / (256 : Int32))) (fun S_1 => hs_ix (1 : Int32) (hs_N 126) (hs_l (hs_U S_1 126 (1 : Int32).toNatClampNeg (hs_rem x1 (256 : Int32))) (fun S_2 => (if x3 = 0 then f_X7_fill_39  x4 x5 x6 (2 : Int32) x2 (0 : Int32) S_2 else f_X7_fill_39  x4 x5 x6 (2 : Int32) x2 (128 : Int32) S_2)))))
def f_X7_fill (a1 : Int32) (a2 : Int32) (a3 : Int32) (a4 : Int32) (a5 : Int32) (a6 : Int32) (S : hs_M) : Option hs_M := f_X7_fill_0 a1 a2 a3 a4 a5 a6 S
/-! HeaderSqueezeModel.sum -/
def f_X7_sum_97 (K35 : Int32 → Int32 → Int32 → Int32 → hs_M → Option (Int32 × hs_M)) (K44 : Int32 → Int32 → Int32 → Int32 → Int32 → hs_M → Option (Int32 × hs_M)) (x2 : Int32) (x3 : Int32) (x5 : Int32) (x6 : Int32) (y0 : Int32) (S : hs_M) : Option (Int32 × hs_M) := hs_l (x6 + (1 : Int32)) (fun x_1 => K44 x2 x3 y0 x5 x_1 S)
def f_X7_sum_75 (K35 : Int32 → Int32 → Int32 → Int32 → hs_M → Option (Int32 × hs_M)) (K44 : Int32 → Int32 → Int32 → Int32 → Int32 → hs_M → Option (Int32 × hs_M)) (x2 : Int32) (x3 : Int32) (x4 : Int32) (x5 : Int32) (x6 : Int32) (y0 : Int32) (S : hs_M) : Option (Int32 × hs_M) := hs_l (x4 >>> ((1 : Int32) &&& 31)) (fun x_1 => (if y0 = 0 then f_X7_sum_97 K35 K44 x2 x3 x5 x6 x_1 S else f_X7_sum_97 K35 K44 x2 x3 x5 x6 (x_1 ^^^ x3) S))
def fb_X7_sum_44 (K35 : Int32 → Int32 → Int32 → Int32 → hs_M → Option (Int32 × hs_M)) (K44 : Int32 → Int32 → Int32 → Int32 → Int32 → hs_M → Option (Int32 × hs_M)) (x2 : Int32) (x3 : Int32) (x4 : Int32) (x5 : Int32) (x6 : Int32) (S : hs_M) : Option (Int32 × hs_M) := (if (8 : Int32) ≤ x6 then hs_l (x5 + (1 : Int32)) (fun x_1 => K35 x2 x3 x4 x_1 S) else hs_ix x5 (hs_N 126) ((if (x4 &&& (1 : Int32)) = (((S 126 x5.toNatClampNeg) >>> (x6 &&& 31)) &&& (1 : Int32)) then f_X7_sum_75 K35 K44 x2 x3 x4 x5 x6 (0 : Int32) S else f_X7_sum_75 K35 K44 x2 x3 x4 x5 x6 (1 : Int32) S)))
def f_X7_sum_44 (K35 : Int32 → Int32 → Int32 → Int32 → hs_M → Option (Int32 × hs_M)) : Nat → Int32 → Int32 → Int32 → Int32 → Int32 → hs_M → Option (Int32 × hs_M)
  | 0 => fun _ _ _ _ _ _ => none
  | n + 1 => fb_X7_sum_44 K35 (f_X7_sum_44 K35 n)
def fb_X7_sum_35 (K35 : Int32 → Int32 → Int32 → Int32 → hs_M → Option (Int32 × hs_M)) (x2 : Int32) (x3 : Int32) (x4 : Int32) (x5 : Int32) (S : hs_M) : Option (Int32 × hs_M) := (if x2 ≤ x5 then some (x4, S) else f_X7_sum_44 K35 hs_fuel x2 x3 x4 x5 (0 : Int32) S)
def f_X7_sum_35  : Nat → Int32 → Int32 → Int32 → Int32 → hs_M → Option (Int32 × hs_M)
  | 0 => fun _ _ _ _ _ => none
  | n + 1 => fb_X7_sum_35  (f_X7_sum_35  n)
def f_X7_sum_24 (x1 : Int32) (x2 : Int32) (y0 : Int32) (S : hs_M) : Option (Int32 × hs_M) := hs_l (((1 : Int32) <<< (x1 &&& 31)) - (1 : Int32)) (fun x_1 => f_X7_sum_35  hs_fuel x2 y0 x_1 (0 : Int32) S)
def f_X7_sum_0 (x1 : Int32) (x2 : Int32) (S : hs_M) : Option (Int32 × hs_M) := (if x1 = (3 : Int32) then f_X7_sum_24  x1 x2 (6 : Int32) S else (if x1 = (7 : Int32) then f_X7_sum_24  x1 x2 (121 : Int32) S else f_X7_sum_24  x1 x2 (224 : Int32) S))
def f_X7_sum (a1 : Int32) (a2 : Int32) (S : hs_M) : Option (Int32 × hs_M) := f_X7_sum_0 a1 a2 S
/-! HeaderSqueezeModel.fits -/
def f_X7_fits_81 (y0 : Int32) (S : hs_M) : Option (Int32 × hs_M) := hs_bg y0 (some (y0, S))
def f_X7_fits_66 (x5 : Int32) (y1 : Int32) (S : hs_M) : Option (Int32 × hs_M) := hs_b2 (f_X7_sum y1 (11 : Int32) S) (fun r_3 S_1 => (if r_3 = x5 then f_X7_fits_81  (1 : Int32) S_1 else f_X7_fits_81  (0 : Int32) S_1))
def f_X7_fits_0 (x1 : Int32) (x2 : Int32) (x3 : Int32) (x4 : Int32) (x5 : Int32) (S : hs_M) : Option (Int32 × hs_M) := hs_ix x1 (hs_N 116) (hs_ix x1 (hs_N 117) (hs_ix x1 (hs_N 119) (hs_ix x1 (hs_N 118) (hs_ix x1 (hs_N 120) (hs_b1 (f_X7_fill (S 116 x1.toNatClampNeg) (S 117 x1.toNatClampNeg) x4 x3 ((S 119 x1.toNatClampNeg) + (x3 * (S 118 x1.toNatClampNeg))) ((x3 + (S 120 x1.toNatClampNeg)) &&& (65535 : Int32)) S) (fun S_1 => (if x2 = 0 then f_X7_fits_66  x5 (3 : Int32) S_1 else (if x2 = (1 : Int32) then f_X7_fits_66  x5 (7 : Int32) S_1 else f_X7_fits_66  x5 (8 : Int32) S_1))))))))
def f_X7_fits (a1 : Int32) (a2 : Int32) (a3 : Int32) (a4 : Int32) (a5 : Int32) (S : hs_M) : Option (Int32 × hs_M) := f_X7_fits_0 a1 a2 a3 a4 a5 S
/-! HeaderSqueezeModel.keep -/
def fb_X7_keep_52 (K52 : Int32 → hs_M → Option hs_M) (x3 : Int32) (S : hs_M) : Option hs_M := (if (11 : Int32) ≤ x3 then some S else hs_ix x3 (hs_N 126) (hs_ix x3 (hs_N 124) (hs_l (hs_U S 124 x3.toNatClampNeg (S 126 x3.toNatClampNeg)) (fun S_1 => hs_l (x3 + (1 : Int32)) (fun x_2 => K52 x_2 S_1)))))
def f_X7_keep_52  : Nat → Int32 → hs_M → Option hs_M
  | 0 => fun _ _ => none
  | n + 1 => fb_X7_keep_52  (f_X7_keep_52  n)
def f_X7_keep_24 (x1 : Int32) (x2 : Int32) (y1 : Int32) (y2 : Int32) (S : hs_M) : Option hs_M := hs_ix y1 (hs_N 122) (hs_l (hs_U S 122 y1.toNatClampNeg y2) (fun S_1 => hs_ix x1 (hs_N 121) (hs_l (hs_U S_1 121 x1.toNatClampNeg x2) (fun S_2 => hs_ix x1 (hs_N 123) (hs_l (hs_U S_2 123 x1.toNatClampNeg (0 : Int32)) (fun S_3 => hs_ix (6 : Int32) (hs_N 125) (hs_ix (6 : Int32) (hs_N 125) (hs_l (hs_U S_3 125 (6 : Int32).toNatClampNeg ((S_3 125 (6 : Int32).toNatClampNeg) + (1 : Int32))) (fun S_4 => f_X7_keep_52  hs_fuel (0 : Int32) S_4)))))))))
def f_X7_keep_0 (x1 : Int32) (x2 : Int32) (S : hs_M) : Option hs_M := hs_ix x1 (hs_N 115) ((if (S 115 x1.toNatClampNeg) = 0 then f_X7_keep_24  x1 x2 x1 x2 S else hs_ix x1 (hs_N 121) (f_X7_keep_24  x1 x2 x1 (S 121 x1.toNatClampNeg) S)))
def f_X7_keep (a1 : Int32) (a2 : Int32) (S : hs_M) : Option hs_M := f_X7_keep_0 a1 a2 S
/-! HeaderSqueezeModel.comeSmall -/
def f_X7_comeSmall_303 (y0 : Int32) (S : hs_M) : Option (Int32 × hs_M) := some (y0, S)
def f_X7_comeSmall_292 (x8 : Int32) (x9 : Int32) (S : hs_M) : Option (Int32 × hs_M) := (if x9 = 0 then f_X7_comeSmall_303  (0 : Int32) S else f_X7_comeSmall_303  x8 S)
def f_X7_comeSmall_290 (x8 : Int32) (x9 : Int32) (y1 : Int32) (y2 : Int32) (y3 : Int32) (S : hs_M) : Option (Int32 × hs_M) := hs_ix y1 (hs_N 125) (hs_l (hs_U S 125 y1.toNatClampNeg (y2 + y3)) (fun S_1 => f_X7_comeSmall_292  x8 x9 S_1))
def f_X7_comeSmall_259 (x1 : Int32) (x7 : Int32) (x8 : Int32) (x9 : Int32) (S : hs_M) : Option (Int32 × hs_M) := (if x9 = 0 then f_X7_comeSmall_292  x8 x9 S else hs_b1 (f_X7_keep x1 x7 S) (fun S_1 => hs_ix (7 : Int32) (hs_N 125) ((if x8 = (2 : Int32) then f_X7_comeSmall_290  x8 x9 (7 : Int32) (S_1 125 (7 : Int32).toNatClampNeg) (1 : Int32) S_1 else f_X7_comeSmall_290  x8 x9 (7 : Int32) (S_1 125 (7 : Int32).toNatClampNeg) (0 : Int32) S_1))))
def f_X7_comeSmall_225 (x1 : Int32) (x2 : Int32) (x4 : Int32) (x5 : Int32) (x6 : Int32) (x7 : Int32) (x8 : Int32) (x9 : Int32) (S : hs_M) : Option (Int32 × hs_M) := (if x9 = 0 then hs_ix x1 (hs_N 122) (hs_b2 (f_X7_near (S 122 x1.toNatClampNeg) x2 x4 S) (fun r_3 S_1 => hs_b2 (f_X7_fits x1 x2 r_3 x5 x6 S_1) (fun r_6 S_4 => f_X7_comeSmall_259  x1 r_3 x8 r_6 S_4))) else f_X7_comeSmall_259  x1 x7 x8 x9 S)
def f_X7_comeSmall_154 (x1 : Int32) (x2 : Int32) (x4 : Int32) (x5 : Int32) (y0 : Int32) (S : hs_M) : Option (Int32 × hs_M) := hs_ix x1 (hs_N 121) (hs_b2 (f_X7_near (S 121 x1.toNatClampNeg) x2 x4 S) (fun r_3 S_1 => hs_b2 (f_X7_fits x1 x2 r_3 x5 y0 S_1) (fun r_6 S_4 => (if r_6 = 0 then hs_b2 (f_X7_bitsOf x2 S_4) (fun r_9 S_7 => hs_l ((r_3 + ((1 : Int32) <<< (r_9 &&& 31))) &&& (65535 : Int32)) (fun x_10 => hs_b2 (f_X7_fits x1 x2 x_10 x5 y0 S_7) (fun r_13 S_11 => f_X7_comeSmall_225  x1 x2 x4 x5 y0 x_10 (2 : Int32) r_13 S_11))) else f_X7_comeSmall_225  x1 x2 x4 x5 y0 r_3 (1 : Int32) r_6 S_4))))
def f_X7_comeSmall_108 (x1 : Int32) (x2 : Int32) (x3 : Int32) (x4 : Int32) (y0 : Int32) (S : hs_M) : Option (Int32 × hs_M) := (if x2 = 0 then hs_ix x3 (hs_N 127) (f_X7_comeSmall_154  x1 x2 x4 y0 (hs_rem (S 127 x3.toNatClampNeg) (8 : Int32)) S) else (if x2 = (1 : Int32) then hs_l (x3 + (1 : Int32)) (fun x_2 => hs_ix x_2 (hs_N 127) (f_X7_comeSmall_154  x1 x2 x4 y0 (hs_rem (S 127 x_2.toNatClampNeg) (128 : Int32)) S)) else hs_l (x3 + (2 : Int32)) (fun x_1 => hs_ix x_1 (hs_N 127) (f_X7_comeSmall_154  x1 x2 x4 y0 (S 127 x_1.toNatClampNeg) S))))
def f_X7_comeSmall_107 (x1 : Int32) (x2 : Int32) (x3 : Int32) (x4 : Int32) (S : hs_M) : Option (Int32 × hs_M) := f_X7_comeSmall_108  x1 x2 x3 x4 (0 : Int32) S
def f_X7_comeSmall_57 (x1 : Int32) (x2 : Int32) (x3 : Int32) (y0 : Int32) (S : hs_M) : Option (Int32 × hs_M) := (if x2 = (1 : Int32) then hs_l (x3 + (1 : Int32)) (fun x_2 => hs_ix x_2 (hs_N 127) ((if (S 127 x_2.toNatClampNeg) ≤ (127 : Int32) then f_X7_comeSmall_108  x1 x2 x3 y0 (0 : Int32) S else f_X7_comeSmall_108  x1 x2 x3 y0 (1 : Int32) S))) else (if x2 = (2 : Int32) then hs_l (x3 + (1 : Int32)) (fun x_1 => hs_ix x_1 (hs_N 127) ((if ((S 127 x_1.toNatClampNeg) &&& (4 : Int32)) = 0 then f_X7_comeSmall_107  x1 x2 x3 y0 S else f_X7_comeSmall_108  x1 x2 x3 y0 (1 : Int32) S))) else f_X7_comeSmall_107  x1 x2 x3 y0 S))
def f_X7_comeSmall_0 (x1 : Int32) (x2 : Int32) (x3 : Int32) (S : hs_M) : Option (Int32 × hs_M) := (if x2 = 0 then hs_ix x3 (hs_N 127) (f_X7_comeSmall_57  x1 x2 x3 ((S 127 x3.toNatClampNeg) / (8 : Int32)) S) else (if x2 = (1 : Int32) then hs_ix x3 (hs_N 127) (f_X7_comeSmall_57  x1 x2 x3 (hs_rem (S 127 x3.toNatClampNeg) (64 : Int32)) S) else hs_ix x3 (hs_N 127) (hs_l (x3 + (1 : Int32)) (fun x_1 => hs_ix x_1 (hs_N 127) (f_X7_comeSmall_57  x1 x2 x3 (((hs_rem (S 127 x3.toNatClampNeg) (32 : Int32)) * (32 : Int32)) + ((S 127 x_1.toNatClampNeg) / (8 : Int32))) S)))))
def f_X7_comeSmall (a1 : Int32) (a2 : Int32) (a3 : Int32) (S : hs_M) : Option (Int32 × hs_M) := f_X7_comeSmall_0 a1 a2 a3 S
/-! HeaderSqueezeModel.two -/
def f_X7_two_0 (x1 : Int32) (S : hs_M) : Option (Int32 × hs_M) := hs_ix x1 (hs_N 127) (hs_l (x1 + (1 : Int32)) (fun x_1 => hs_ix x_1 (hs_N 127) (some ((((256 : Int32) * (S 127 x1.toNatClampNeg)) + (S 127 x_1.toNatClampNeg)), S))))
def f_X7_two (a1 : Int32) (S : hs_M) : Option (Int32 × hs_M) := f_X7_two_0 a1 S
/-! HeaderSqueezeModel.comeWhole -/
def f_X7_comeWhole_202 (x1 : Int32) (x4 : Int32) (x5 : Int32) (x6 : Int32) (x7 : Int32) (x8 : Int32) (x9 : Int32) (x10 : Int32) (y1 : Int32) (y2 : Int32) (S : hs_M) : Option (Int32 × hs_M) := hs_b2 (f_X7_sum y1 y2 S) (fun r_3 S_1 => hs_l (x7 + (9 : Int32)) (fun x_4 => hs_ix x_4 (hs_N 127) ((if r_3 = (S_1 127 x_4.toNatClampNeg) then hs_ix x1 (hs_N 116) (hs_l (hs_U S_1 116 x1.toNatClampNeg x4) (fun S_5 => hs_ix x1 (hs_N 117) (hs_l (hs_U S_5 117 x1.toNatClampNeg x5) (fun S_6 => hs_ix x1 (hs_N 118) (hs_l (hs_U S_6 118 x1.toNatClampNeg x6) (fun S_7 => hs_ix x1 (hs_N 119) (hs_l (hs_U S_7 119 x1.toNatClampNeg (x9 - (x8 * x6))) (fun S_8 => hs_ix x1 (hs_N 120) (hs_l (hs_U S_8 120 x1.toNatClampNeg ((x10 - x8) &&& (65535 : Int32))) (fun S_9 => hs_b1 (f_X7_keep x1 x8 S_9) (fun S_10 => hs_ix x1 (hs_N 115) (hs_l (hs_U S_10 115 x1.toNatClampNeg (2 : Int32)) (fun S_12 => hs_bg (1 : Int32) (some ((1 : Int32), S_12))))))))))))))) else hs_bg (0 : Int32) (some ((0 : Int32), S_1))))))
def f_X7_comeWhole_152 (x1 : Int32) (x2 : Int32) (x4 : Int32) (x5 : Int32) (x6 : Int32) (x7 : Int32) (x8 : Int32) (x9 : Int32) (x10 : Int32) (y1 : Int32) (y2 : Int32) (y3 : Int32) (S : hs_M) : Option (Int32 × hs_M) := hs_b1 (f_X7_fill y1 y2 y3 x8 x9 x10 S) (fun S_1 => hs_ix (11 : Int32) (hs_N 126) (hs_l (hs_U S_1 126 (11 : Int32).toNatClampNeg (x6 / (256 : Int32))) (fun S_3 => hs_ix (12 : Int32) (hs_N 126) (hs_l (hs_U S_3 126 (12 : Int32).toNatClampNeg (hs_rem x6 (256 : Int32))) (fun S_4 => (if x2 = (4 : Int32) then f_X7_comeWhole_202  x1 x4 x5 x6 x7 x8 x9 x10 (8 : Int32) (13 : Int32) S_4 else f_X7_comeWhole_202  x1 x4 x5 x6 x7 x8 x9 x10 (8 : Int32) (11 : Int32) S_4))))))
def f_X7_comeWhole_85 (x1 : Int32) (x2 : Int32) (x4 : Int32) (x5 : Int32) (x6 : Int32) (y0 : Int32) (S : hs_M) : Option (Int32 × hs_M) := hs_b2 (f_X7_two (y0 + (1 : Int32)) S) (fun r_3 S_1 => hs_b2 (f_X7_two (y0 + (3 : Int32)) S_1) (fun r_6 S_4 => hs_b2 (f_X7_two (y0 + (5 : Int32)) S_4) (fun r_9 S_7 => hs_l ((r_6 <<< ((16 : Int32) &&& 31)) ||| r_9) (fun x_10 => hs_b2 (f_X7_two (y0 + (7 : Int32)) S_7) (fun r_13 S_11 => hs_ix y0 (hs_N 127) ((if (S_11 127 y0.toNatClampNeg) ≤ (127 : Int32) then f_X7_comeWhole_152  x1 x2 x4 x5 x6 y0 r_3 x_10 r_13 x4 x5 (0 : Int32) S_11 else f_X7_comeWhole_152  x1 x2 x4 x5 x6 y0 r_3 x_10 r_13 x4 x5 (1 : Int32) S_11)))))))
def f_X7_comeWhole_68 (x1 : Int32) (x2 : Int32) (x3 : Int32) (x4 : Int32) (x5 : Int32) (y0 : Int32) (S : hs_M) : Option (Int32 × hs_M) := (if x2 = (4 : Int32) then f_X7_comeWhole_85  x1 x2 x4 x5 y0 (x3 + (6 : Int32)) S else f_X7_comeWhole_85  x1 x2 x4 x5 y0 (x3 + (1 : Int32)) S)
def f_X7_comeWhole_45 (x1 : Int32) (x2 : Int32) (x3 : Int32) (x4 : Int32) (y0 : Int32) (S : hs_M) : Option (Int32 × hs_M) := (if x2 = (4 : Int32) then hs_b2 (f_X7_two (x3 + (4 : Int32)) S) (fun r_3 S_1 => f_X7_comeWhole_68  x1 x2 x3 x4 y0 r_3 S_1) else hs_ix x1 (hs_N 118) (f_X7_comeWhole_68  x1 x2 x3 x4 y0 (S 118 x1.toNatClampNeg) S))
def f_X7_comeWhole_21 (x1 : Int32) (x2 : Int32) (x3 : Int32) (y0 : Int32) (S : hs_M) : Option (Int32 × hs_M) := (if x2 = (4 : Int32) then hs_l (x3 + (3 : Int32)) (fun x_1 => hs_ix x_1 (hs_N 127) (f_X7_comeWhole_45  x1 x2 x3 y0 (S 127 x_1.toNatClampNeg) S)) else hs_ix x1 (hs_N 117) (f_X7_comeWhole_45  x1 x2 x3 y0 (S 117 x1.toNatClampNeg) S))
def f_X7_comeWhole_0 (x1 : Int32) (x2 : Int32) (x3 : Int32) (S : hs_M) : Option (Int32 × hs_M) := (if x2 = (4 : Int32) then hs_b2 (f_X7_two (x3 + (1 : Int32)) S) (fun r_3 S_1 => f_X7_comeWhole_21  x1 x2 x3 r_3 S_1) else hs_ix x1 (hs_N 116) (f_X7_comeWhole_21  x1 x2 x3 (S 116 x1.toNatClampNeg) S))
def f_X7_comeWhole (a1 : Int32) (a2 : Int32) (a3 : Int32) (S : hs_M) : Option (Int32 × hs_M) := f_X7_comeWhole_0 a1 a2 a3 S
/-! HeaderSqueezeModel.count -/
def f_X7_count_36 (y0 : Int32) (S : hs_M) : Option (Int32 × hs_M) := some (y0, S)
def f_X7_count_16 (x1 : Int32) (y1 : Int32) (S : hs_M) : Option (Int32 × hs_M) := hs_l (hs_U S 100 0 y1) (fun S_1 => (if (S_1 100 0) = 0 then hs_ix x1 (hs_N 125) (f_X7_count_36  (S_1 125 x1.toNatClampNeg) S_1) else f_X7_count_36  (0 : Int32) S_1))
def f_X7_count_11 (x1 : Int32) (S : hs_M) : Option (Int32 × hs_M) := f_X7_count_16  x1 (1 : Int32) S
def f_X7_count_0 (x1 : Int32) (S : hs_M) : Option (Int32 × hs_M) := (if x1 < 0 then f_X7_count_11  x1 S else (if x1 ≤ (10 : Int32) then f_X7_count_16  x1 (0 : Int32) S else f_X7_count_11  x1 S))
def f_X7_count (a1 : Int32) (S : hs_M) : Option (Int32 × hs_M) := f_X7_count_0 a1 S
/-! HeaderSqueezeModel.off -/
def fb_X7_off_36 (K12 : Int32 → hs_M → Option hs_M) (K36 : Int32 → Int32 → hs_M → Option hs_M) (x2 : Int32) (x3 : Int32) (S : hs_M) : Option hs_M := (if (20 : Int32) ≤ x3 then hs_l (x2 + (1 : Int32)) (fun x_1 => K12 x_1 S) else hs_l ((((20 : Int32) * x2) + (20 : Int32)) + x3) (fun x_2 => hs_ix x_2 (hs_N 114) (hs_ix (((20 : Int32) * x2) + x3) (hs_N 114) (hs_l (hs_U S 114 (((20 : Int32) * x2) + x3).toNatClampNeg (S 114 x_2.toNatClampNeg)) (fun S_3 => hs_l (x3 + (1 : Int32)) (fun x_4 => K36 x2 x_4 S_3))))))
def f_X7_off_36 (K12 : Int32 → hs_M → Option hs_M) : Nat → Int32 → Int32 → hs_M → Option hs_M
  | 0 => fun _ _ _ => none
  | n + 1 => fb_X7_off_36 K12 (f_X7_off_36 K12 n)
def fb_X7_off_12 (K12 : Int32 → hs_M → Option hs_M) (x2 : Int32) (S : hs_M) : Option hs_M := (if (S 100 16) ≤ x2 then some S else hs_l (x2 + (1 : Int32)) (fun x_1 => hs_ix x_1 (hs_N 113) (hs_ix x2 (hs_N 113) (hs_l (hs_U S 113 x2.toNatClampNeg (S 113 x_1.toNatClampNeg)) (fun S_2 => f_X7_off_36 K12 hs_fuel x2 (0 : Int32) S_2)))))
def f_X7_off_12  : Nat → Int32 → hs_M → Option hs_M
  | 0 => fun _ _ => none
  | n + 1 => fb_X7_off_12  (f_X7_off_12  n)
def f_X7_off_0 (x1 : Int32) (S : hs_M) : Option hs_M := hs_l (hs_U S 100 16 ((S 100 16) - (1 : Int32))) (fun S_1 => f_X7_off_12  hs_fuel x1 S_1)
def f_X7_off (a1 : Int32) (S : hs_M) : Option hs_M := f_X7_off_0 a1 S
/-! HeaderSqueezeModel.kindOf -/
def f_X7_kindOf_56 (y0 : Int32) (S : hs_M) : Option (Int32 × hs_M) := some (y0, S)
def f_X7_kindOf_0 (x1 : Int32) (S : hs_M) : Option (Int32 × hs_M) := (if (128 : Int32) ≤ x1 then (if (192 : Int32) ≤ x1 then (if (224 : Int32) ≤ x1 then (if x1 = (248 : Int32) then f_X7_kindOf_56  (3 : Int32) S else (if x1 = (253 : Int32) then f_X7_kindOf_56  (4 : Int32) S else f_X7_kindOf_56  (-1 : Int32) S)) else f_X7_kindOf_56  (2 : Int32) S) else f_X7_kindOf_56  (1 : Int32) S) else f_X7_kindOf_56  (0 : Int32) S)
def f_X7_kindOf (a1 : Int32) (S : hs_M) : Option (Int32 × hs_M) := f_X7_kindOf_0 a1 S
/-! HeaderSqueezeModel.fail -/
def f_X7_fail_65 (S : hs_M) : Option hs_M := some S
def f_X7_fail_64 (y1 : Int32) (y2 : Int32) (S : hs_M) : Option hs_M := hs_ix y1 (hs_N 115) (hs_l (hs_U S 115 y1.toNatClampNeg y2) (fun S_1 => f_X7_fail_65   S_1))
def f_X7_fail_0 (x1 : Int32) (S : hs_M) : Option hs_M := hs_ix (10 : Int32) (hs_N 125) (hs_ix (10 : Int32) (hs_N 125) (hs_l (hs_U S 125 (10 : Int32).toNatClampNeg ((S 125 (10 : Int32).toNatClampNeg) + (1 : Int32))) (fun S_1 => hs_ix x1 (hs_N 123) (hs_ix x1 (hs_N 123) (hs_l (hs_U S_1 123 x1.toNatClampNeg ((S_1 123 x1.toNatClampNeg) + (1 : Int32))) (fun S_2 => hs_ix x1 (hs_N 123) ((if (S_2 123 x1.toNatClampNeg) = (3 : Int32) then hs_ix x1 (hs_N 123) (hs_l (hs_U S_2 123 x1.toNatClampNeg (0 : Int32)) (fun S_3 => hs_ix x1 (hs_N 115) ((if (S_3 115 x1.toNatClampNeg) ≤ 0 then f_X7_fail_64  x1 (0 : Int32) S_3 else hs_ix x1 (hs_N 115) (f_X7_fail_64  x1 ((S_3 115 x1.toNatClampNeg) - (1 : Int32)) S_3))))) else f_X7_fail_65   S_2))))))))
def f_X7_fail (a1 : Int32) (S : hs_M) : Option hs_M := f_X7_fail_0 a1 S
/-! HeaderSqueezeModel.deliver -/
def f_X7_deliver_289 (y0 : Int32) (y1 : Int32) (S : hs_M) : Option (Int32 × hs_M) := some ((y0 + y1), S)
def f_X7_deliver_258 (x3 : Int32) (y0 : Int32) (S : hs_M) : Option (Int32 × hs_M) := (if y0 = 0 then hs_b1 (f_X7_fail x3 S) (fun S_1 => hs_l (hs_U S_1 100 0 (4 : Int32)) (fun S_3 => some ((0 : Int32), S_3))) else (if y0 = (2 : Int32) then f_X7_deliver_289  x3 (4 : Int32) S else f_X7_deliver_289  x3 (0 : Int32) S))
def f_X7_deliver_225 (x2 : Int32) (x3 : Int32) (x4 : Int32) (S : hs_M) : Option (Int32 × hs_M) := (if (3 : Int32) ≤ x4 then hs_b2 (f_X7_comeWhole x3 x4 x2 S) (fun r_3 S_1 => (if r_3 = 0 then f_X7_deliver_258  x3 (0 : Int32) S_1 else f_X7_deliver_258  x3 (1 : Int32) S_1)) else hs_b2 (f_X7_comeSmall x3 x4 x2 S) (fun r_6 S_4 => f_X7_deliver_258  x3 r_6 S_4))
def f_X7_deliver_207 (S : hs_M) : Option (Int32 × hs_M) := hs_ix (9 : Int32) (hs_N 125) (hs_ix (9 : Int32) (hs_N 125) (hs_l (hs_U S 125 (9 : Int32).toNatClampNeg ((S 125 (9 : Int32).toNatClampNeg) + (1 : Int32))) (fun S_1 => hs_l (hs_U S_1 100 0 (3 : Int32)) (fun S_2 => some ((0 : Int32), S_2)))))
def f_X7_deliver_191 (x2 : Int32) (x3 : Int32) (x4 : Int32) (S : hs_M) : Option (Int32 × hs_M) := (if (3 : Int32) ≤ x4 then f_X7_deliver_225  x2 x3 x4 S else hs_ix x3 (hs_N 115) ((if (2 : Int32) ≤ (S 115 x3.toNatClampNeg) then f_X7_deliver_225  x2 x3 x4 S else f_X7_deliver_207   S)))
def f_X7_deliver_146 (x2 : Int32) (x3 : Int32) (y0 : Int32) (S : hs_M) : Option (Int32 × hs_M) := hs_b2 (f_X7_broken y0 x2 S) (fun r_3 S_1 => (if r_3 = 0 then (if y0 = (3 : Int32) then hs_ix x3 (hs_N 115) ((if (S_1 115 x3.toNatClampNeg) = 0 then f_X7_deliver_207   S_1 else f_X7_deliver_191  x2 x3 y0 S_1)) else f_X7_deliver_191  x2 x3 y0 S_1) else hs_ix (8 : Int32) (hs_N 125) (hs_ix (8 : Int32) (hs_N 125) (hs_l (hs_U S_1 125 (8 : Int32).toNatClampNeg ((S_1 125 (8 : Int32).toNatClampNeg) + (1 : Int32))) (fun S_4 => hs_l (hs_U S_4 100 0 (2 : Int32)) (fun S_5 => some ((0 : Int32), S_5)))))))
def f_X7_deliver_123 (x2 : Int32) (y0 : Int32) (S : hs_M) : Option (Int32 × hs_M) := (if (S 100 31) ≤ x2 then f_X7_deliver_146  x2 y0 (-1 : Int32) S else hs_ix x2 (hs_N 127) (hs_b2 (f_X7_kindOf (S 127 x2.toNatClampNeg) S) (fun r_3 S_1 => f_X7_deliver_146  x2 y0 r_3 S_1)))
def f_X7_deliver_103 (y0 : Int32) (S : hs_M) : Option (Int32 × hs_M) := (if y0 = (1 : Int32) then hs_ix (0 : Int32) (hs_N 127) (f_X7_deliver_123  y0 ((S 127 (0 : Int32).toNatClampNeg) - (224 : Int32)) S) else f_X7_deliver_123  y0 (0 : Int32) S)
def f_X7_deliver_102 (S : hs_M) : Option (Int32 × hs_M) := f_X7_deliver_103  (0 : Int32) S
def fb_X7_deliver_38 (K38 : Int32 → Int32 → hs_M → Option (Int32 × hs_M)) (x1 : Int32) (x2 : Int32) (S : hs_M) : Option (Int32 × hs_M) := (if (S 100 31) ≤ x2 then hs_b1 (f_X7_off x1 S) (fun S_1 => hs_ix (0 : Int32) (hs_N 127) ((if (S_1 127 (0 : Int32).toNatClampNeg) ≤ (224 : Int32) then f_X7_deliver_102   S_1 else hs_ix (0 : Int32) (hs_N 127) ((if (228 : Int32) ≤ (S_1 127 (0 : Int32).toNatClampNeg) then f_X7_deliver_102   S_1 else f_X7_deliver_103  (1 : Int32) S_1))))) else hs_l (((20 : Int32) * x1) + x2) (fun x_3 => hs_ix x_3 (hs_N 114) (hs_ix x2 (hs_N 127) (hs_l (hs_U S 127 x2.toNatClampNeg (S 114 x_3.toNatClampNeg)) (fun S_4 => hs_l (x2 + (1 : Int32)) (fun x_5 => K38 x1 x_5 S_4))))))
def f_X7_deliver_38  : Nat → Int32 → Int32 → hs_M → Option (Int32 × hs_M)
  | 0 => fun _ _ _ => none
  | n + 1 => fb_X7_deliver_38  (f_X7_deliver_38  n)
def f_X7_deliver_14 (x1 : Int32) (y1 : Int32) (S : hs_M) : Option (Int32 × hs_M) := hs_l (hs_U S 100 0 y1) (fun S_1 => (if (S_1 100 0) = 0 then hs_ix x1 (hs_N 113) (hs_l (hs_U S_1 100 31 (S_1 113 x1.toNatClampNeg)) (fun S_2 => f_X7_deliver_38  hs_fuel x1 (0 : Int32) S_2)) else some ((0 : Int32), S_1)))
def f_X7_deliver_0 (x1 : Int32) (S : hs_M) : Option (Int32 × hs_M) := hs_b2 (f_X7_noPacket x1 S) (fun r_3 S_1 => (if r_3 = 0 then f_X7_deliver_14  x1 (0 : Int32) S_1 else f_X7_deliver_14  x1 (1 : Int32) S_1))
def f_X7_deliver (a1 : Int32) (S : hs_M) : Option (Int32 × hs_M) := f_X7_deliver_0 a1 S
/-! HeaderSqueezeModel.outside -/
def f_X7_outside_15 (y0 : Int32) (S : hs_M) : Option (Int32 × hs_M) := hs_bg y0 (some (y0, S))
def f_X7_outside_10 (S : hs_M) : Option (Int32 × hs_M) := f_X7_outside_15  (1 : Int32) S
def f_X7_outside_0 (x1 : Int32) (S : hs_M) : Option (Int32 × hs_M) := (if x1 < 0 then f_X7_outside_10   S else (if x1 ≤ (65535 : Int32) then f_X7_outside_15  (0 : Int32) S else f_X7_outside_10   S))
def f_X7_outside (a1 : Int32) (S : hs_M) : Option (Int32 × hs_M) := f_X7_outside_0 a1 S
/-! HeaderSqueezeModel.head -/
def f_X7_head_49 (S : hs_M) : Option hs_M := some S
def f_X7_head_24 (x1 : Int32) (x2 : Int32) (x3 : Int32) (y1 : Int32) (S : hs_M) : Option hs_M := hs_l (hs_U S 100 0 y1) (fun S_1 => (if (S_1 100 0) = 0 then hs_l (hs_U S_1 100 1 x1) (fun S_2 => hs_l (hs_U S_2 100 2 x2) (fun S_3 => hs_bg x3 (hs_l (hs_U S_3 100 3 x3) (fun S_4 => f_X7_head_49   S_4)))) else f_X7_head_49   S_1))
def f_X7_head_19 (x1 : Int32) (x2 : Int32) (x3 : Int32) (S : hs_M) : Option hs_M := f_X7_head_24  x1 x2 x3 (1 : Int32) S
def f_X7_head_0 (x1 : Int32) (x2 : Int32) (x3 : Int32) (S : hs_M) : Option hs_M := hs_b2 (f_X7_outside x1 S) (fun r_3 S_1 => (if r_3 = 0 then (if x2 < 0 then f_X7_head_19  x1 x2 x3 S_1 else (if x2 ≤ (127 : Int32) then f_X7_head_24  x1 x2 x3 (0 : Int32) S_1 else f_X7_head_19  x1 x2 x3 S_1)) else f_X7_head_19  x1 x2 x3 S_1))
def f_X7_head (a1 : Int32) (a2 : Int32) (a3 : Int32) (S : hs_M) : Option hs_M := f_X7_head_0 a1 a2 a3 S
/-! HeaderSqueezeModel.line -/
def f_X7_line_0 (S : hs_M) : Option (Int32 × hs_M) := hs_l (hs_U S 100 0 (0 : Int32)) (fun S_1 => some ((S_1 100 16), S_1))
def f_X7_line  (S : hs_M) : Option (Int32 × hs_M) := f_X7_line_0  S
/-! HeaderSqueezeModel.lose -/
def f_X7_lose_29 (S : hs_M) : Option hs_M := some S
def f_X7_lose_14 (x1 : Int32) (y1 : Int32) (S : hs_M) : Option hs_M := hs_l (hs_U S 100 0 y1) (fun S_1 => (if (S_1 100 0) = 0 then hs_b1 (f_X7_off x1 S_1) (fun S_2 => f_X7_lose_29   S_2) else f_X7_lose_29   S_1))
def f_X7_lose_0 (x1 : Int32) (S : hs_M) : Option hs_M := hs_b2 (f_X7_noPacket x1 S) (fun r_3 S_1 => (if r_3 = 0 then f_X7_lose_14  x1 (0 : Int32) S_1 else f_X7_lose_14  x1 (1 : Int32) S_1))
def f_X7_lose (a1 : Int32) (S : hs_M) : Option hs_M := f_X7_lose_0 a1 S
/-! HeaderSqueezeModel.made -/
def f_X7_made_36 (y0 : Int32) (S : hs_M) : Option (Int32 × hs_M) := some (y0, S)
def f_X7_made_16 (x1 : Int32) (y1 : Int32) (S : hs_M) : Option (Int32 × hs_M) := hs_l (hs_U S 100 0 y1) (fun S_1 => (if (S_1 100 0) = 0 then hs_ix x1 (hs_N 124) (f_X7_made_36  (S_1 124 x1.toNatClampNeg) S_1) else f_X7_made_36  (0 : Int32) S_1))
def f_X7_made_11 (x1 : Int32) (S : hs_M) : Option (Int32 × hs_M) := f_X7_made_16  x1 (1 : Int32) S
def f_X7_made_0 (x1 : Int32) (S : hs_M) : Option (Int32 × hs_M) := (if x1 < 0 then f_X7_made_11  x1 S else (if x1 ≤ (10 : Int32) then f_X7_made_16  x1 (0 : Int32) S else f_X7_made_11  x1 S))
def f_X7_made (a1 : Int32) (S : hs_M) : Option (Int32 × hs_M) := f_X7_made_0 a1 S
/-! HeaderSqueezeModel.noFlow -/
def f_X7_noFlow_14 (y0 : Int32) (S : hs_M) : Option (Int32 × hs_M) := hs_bg y0 (some (y0, S))
def f_X7_noFlow_9 (S : hs_M) : Option (Int32 × hs_M) := f_X7_noFlow_14  (1 : Int32) S
def f_X7_noFlow_0 (x1 : Int32) (S : hs_M) : Option (Int32 × hs_M) := (if x1 < 0 then f_X7_noFlow_9   S else (if x1 ≤ (3 : Int32) then f_X7_noFlow_14  (0 : Int32) S else f_X7_noFlow_9   S))
def f_X7_noFlow (a1 : Int32) (S : hs_M) : Option (Int32 × hs_M) := f_X7_noFlow_0 a1 S
/-! HeaderSqueezeModel.note -/
def f_X7_note_52 (x1 : Int32) (x2 : Int32) (S : hs_M) : Option hs_M := hs_ix x1 (hs_N 111) (hs_ix (((4 : Int32) * x1) + (S 111 x1.toNatClampNeg)) (hs_N 112) (hs_l (hs_U S 112 (((4 : Int32) * x1) + (S 111 x1.toNatClampNeg)).toNatClampNeg x2) (fun S_1 => hs_ix x1 (hs_N 111) (hs_ix x1 (hs_N 111) (hs_l (hs_U S_1 111 x1.toNatClampNeg ((S_1 111 x1.toNatClampNeg) + (1 : Int32))) (fun S_2 => some S_2))))))
def fb_X7_note_12 (K12 : Int32 → Int32 → Int32 → hs_M → Option hs_M) (x1 : Int32) (x2 : Int32) (x3 : Int32) (S : hs_M) : Option hs_M := (if (3 : Int32) ≤ x3 then hs_ix x1 (hs_N 111) (hs_l (hs_U S 111 x1.toNatClampNeg (3 : Int32)) (fun S_1 => f_X7_note_52  x1 x2 S_1)) else hs_l ((((4 : Int32) * x1) + x3) + (1 : Int32)) (fun x_2 => hs_ix x_2 (hs_N 112) (hs_ix (((4 : Int32) * x1) + x3) (hs_N 112) (hs_l (hs_U S 112 (((4 : Int32) * x1) + x3).toNatClampNeg (S 112 x_2.toNatClampNeg)) (fun S_3 => hs_l (x3 + (1 : Int32)) (fun x_4 => K12 x1 x2 x_4 S_3))))))
def f_X7_note_12  : Nat → Int32 → Int32 → Int32 → hs_M → Option hs_M
  | 0 => fun _ _ _ _ => none
  | n + 1 => fb_X7_note_12  (f_X7_note_12  n)
def f_X7_note_0 (x1 : Int32) (x2 : Int32) (S : hs_M) : Option hs_M := hs_ix x1 (hs_N 111) ((if (S 111 x1.toNatClampNeg) = (4 : Int32) then f_X7_note_12  hs_fuel x1 x2 (0 : Int32) S else f_X7_note_52  x1 x2 S))
def f_X7_note (a1 : Int32) (a2 : Int32) (S : hs_M) : Option hs_M := f_X7_note_0 a1 a2 S
/-! HeaderSqueezeModel.put -/
def f_X7_put_0 (x1 : Int32) (S : hs_M) : Option hs_M := hs_ix (S 100 31) (hs_N 127) (hs_l (hs_U S 127 (S 100 31).toNatClampNeg x1) (fun S_1 => hs_l (hs_U S_1 100 31 ((S_1 100 31) + (1 : Int32))) (fun S_2 => some S_2)))
def f_X7_put (a1 : Int32) (S : hs_M) : Option hs_M := f_X7_put_0 a1 S
/-! HeaderSqueezeModel.putRest -/
def fb_X7_putRest_16 (K16 : Int32 → Int32 → hs_M → Option hs_M) (x1 : Int32) (x2 : Int32) (S : hs_M) : Option hs_M := (if (11 : Int32) ≤ x2 then hs_b2 (f_X7_sum (8 : Int32) x1 S) (fun r_3 S_1 => hs_b1 (f_X7_put r_3 S_1) (fun S_4 => some S_4)) else hs_ix x2 (hs_N 126) (hs_b1 (f_X7_put (S 126 x2.toNatClampNeg) S) (fun S_6 => hs_l (x2 + (1 : Int32)) (fun x_8 => K16 x1 x_8 S_6))))
def f_X7_putRest_16  : Nat → Int32 → Int32 → hs_M → Option hs_M
  | 0 => fun _ _ _ => none
  | n + 1 => fb_X7_putRest_16  (f_X7_putRest_16  n)
def f_X7_putRest_0 (x1 : Int32) (S : hs_M) : Option hs_M := hs_ix (2 : Int32) (hs_N 126) (hs_b1 (f_X7_put ((S 126 (2 : Int32).toNatClampNeg) &&& (128 : Int32)) S) (fun S_1 => f_X7_putRest_16  hs_fuel x1 (3 : Int32) S_1))
def f_X7_putRest (a1 : Int32) (S : hs_M) : Option hs_M := f_X7_putRest_0 a1 S
/-! HeaderSqueezeModel.receiver -/
def f_X7_receiver_86 (y0 : Int32) (S : hs_M) : Option (Int32 × hs_M) := some (y0, S)
def f_X7_receiver_27 (x1 : Int32) (x2 : Int32) (y1 : Int32) (S : hs_M) : Option (Int32 × hs_M) := hs_l (hs_U S 100 0 y1) (fun S_1 => (if (S_1 100 0) = 0 then (if x2 = 0 then hs_ix x1 (hs_N 115) (f_X7_receiver_86  (S_1 115 x1.toNatClampNeg) S_1) else (if x2 = (1 : Int32) then hs_ix x1 (hs_N 121) (f_X7_receiver_86  (S_1 121 x1.toNatClampNeg) S_1) else (if x2 = (2 : Int32) then hs_ix x1 (hs_N 122) (f_X7_receiver_86  (S_1 122 x1.toNatClampNeg) S_1) else hs_ix x1 (hs_N 123) (f_X7_receiver_86  (S_1 123 x1.toNatClampNeg) S_1)))) else some ((0 : Int32), S_1)))
def f_X7_receiver_22 (x1 : Int32) (x2 : Int32) (S : hs_M) : Option (Int32 × hs_M) := f_X7_receiver_27  x1 x2 (2 : Int32) S
def f_X7_receiver_0 (x1 : Int32) (x2 : Int32) (S : hs_M) : Option (Int32 × hs_M) := hs_b2 (f_X7_noFlow x1 S) (fun r_3 S_1 => (if r_3 = 0 then (if x2 < 0 then f_X7_receiver_22  x1 x2 S_1 else (if x2 ≤ (3 : Int32) then f_X7_receiver_27  x1 x2 (0 : Int32) S_1 else f_X7_receiver_22  x1 x2 S_1)) else f_X7_receiver_27  x1 x2 (1 : Int32) S_1))
def f_X7_receiver (a1 : Int32) (a2 : Int32) (S : hs_M) : Option (Int32 × hs_M) := f_X7_receiver_0 a1 a2 S
/-! HeaderSqueezeModel.write -/
def f_X7_write_269 (S : hs_M) : Option hs_M := some S
def f_X7_write_132 (y1 : Int32) (y2 : Int32) (S : hs_M) : Option hs_M := hs_b1 (f_X7_put (y1 + y2) S) (fun S_1 => hs_b2 (f_X7_sum (8 : Int32) (11 : Int32) S_1) (fun r_5 S_3 => hs_b1 (f_X7_put r_5 S_3) (fun S_6 => f_X7_write_269   S_6)))
def f_X7_write_76 (y1 : Int32) (S : hs_M) : Option hs_M := hs_b2 (f_X7_sum (7 : Int32) (11 : Int32) S) (fun r_3 S_1 => hs_b1 (f_X7_put (y1 + r_3) S_1) (fun S_4 => f_X7_write_269   S_4))
def f_X7_write_18 (x1 : Int32) (x2 : Int32) (x3 : Int32) (S : hs_M) : Option hs_M := (if x2 = 0 then hs_b2 (f_X7_sum (3 : Int32) (11 : Int32) S) (fun r_27 S_25 => hs_b1 (f_X7_put (((hs_rem x3 (16 : Int32)) * (8 : Int32)) + r_27) S_25) (fun S_28 => f_X7_write_269   S_28)) else (if x2 = (1 : Int32) then hs_b1 (f_X7_put ((128 : Int32) + (hs_rem x3 (64 : Int32))) S) (fun S_23 => (if (S_23 100 3) = 0 then f_X7_write_76  (0 : Int32) S_23 else f_X7_write_76  (128 : Int32) S_23)) else (if x2 = (2 : Int32) then hs_b1 (f_X7_put ((192 : Int32) + ((hs_rem x3 (1024 : Int32)) / (32 : Int32))) S) (fun S_21 => (if (S_21 100 3) = 0 then f_X7_write_132  ((hs_rem x3 (32 : Int32)) * (8 : Int32)) (0 : Int32) S_21 else f_X7_write_132  ((hs_rem x3 (32 : Int32)) * (8 : Int32)) (4 : Int32) S_21)) else (if x2 = (3 : Int32) then hs_b1 (f_X7_put (248 : Int32) S) (fun S_17 => hs_b1 (f_X7_putRest (11 : Int32) S_17) (fun S_19 => f_X7_write_269   S_19)) else hs_ix x1 (hs_N 101) (hs_ix (11 : Int32) (hs_N 126) (hs_l (hs_U S 126 (11 : Int32).toNatClampNeg ((S 101 x1.toNatClampNeg) / (256 : Int32))) (fun S_1 => hs_ix x1 (hs_N 101) (hs_ix (12 : Int32) (hs_N 126) (hs_l (hs_U S_1 126 (12 : Int32).toNatClampNeg (hs_rem (S_1 101 x1.toNatClampNeg) (256 : Int32))) (fun S_2 => hs_b1 (f_X7_put (253 : Int32) S_2) (fun S_3 => hs_ix (0 : Int32) (hs_N 126) (hs_b1 (f_X7_put (S_3 126 (0 : Int32).toNatClampNeg) S_3) (fun S_5 => hs_ix (1 : Int32) (hs_N 126) (hs_b1 (f_X7_put (S_5 126 (1 : Int32).toNatClampNeg) S_5) (fun S_7 => hs_b1 (f_X7_put (S_7 100 2) S_7) (fun S_9 => hs_ix (11 : Int32) (hs_N 126) (hs_b1 (f_X7_put (S_9 126 (11 : Int32).toNatClampNeg) S_9) (fun S_11 => hs_ix (12 : Int32) (hs_N 126) (hs_b1 (f_X7_put (S_11 126 (12 : Int32).toNatClampNeg) S_11) (fun S_13 => hs_b1 (f_X7_putRest (13 : Int32) S_13) (fun S_15 => f_X7_write_269   S_15)))))))))))))))))))))
def f_X7_write_0 (x1 : Int32) (x2 : Int32) (x3 : Int32) (S : hs_M) : Option hs_M := hs_l (hs_U S 100 31 (0 : Int32)) (fun S_1 => (if x1 ≤ 0 then f_X7_write_18  x1 x2 x3 S_1 else hs_b1 (f_X7_put ((224 : Int32) + x1) S_1) (fun S_2 => f_X7_write_18  x1 x2 x3 S_2)))
def f_X7_write (a1 : Int32) (a2 : Int32) (a3 : Int32) (S : hs_M) : Option hs_M := f_X7_write_0 a1 a2 a3 S
/-! HeaderSqueezeModel.send -/
def fb_X7_send_444 (K444 : Int32 → Int32 → hs_M → Option (Int32 × hs_M)) (x9 : Int32) (x10 : Int32) (S : hs_M) : Option (Int32 × hs_M) := (if (S 100 31) ≤ x10 then hs_l (hs_U S 100 16 ((S 100 16) + (1 : Int32))) (fun S_1 => some (x9, S_1)) else hs_ix x10 (hs_N 127) (hs_ix (((20 : Int32) * (S 100 16)) + x10) (hs_N 114) (hs_l (hs_U S 114 (((20 : Int32) * (S 100 16)) + x10).toNatClampNeg (S 127 x10.toNatClampNeg)) (fun S_2 => hs_l (x10 + (1 : Int32)) (fun x_3 => K444 x9 x_3 S_2)))))
def f_X7_send_444  : Nat → Int32 → Int32 → hs_M → Option (Int32 × hs_M)
  | 0 => fun _ _ _ => none
  | n + 1 => fb_X7_send_444  (f_X7_send_444  n)
def f_X7_send_407 (x1 : Int32) (x2 : Int32) (x9 : Int32) (S : hs_M) : Option (Int32 × hs_M) := hs_b1 (f_X7_note x1 x2 S) (fun S_1 => (if (S_1 100 16) = (8 : Int32) then some ((x9 + (8 : Int32)), S_1) else hs_ix (S_1 100 16) (hs_N 113) (hs_l (hs_U S_1 113 (S_1 100 16).toNatClampNeg (S_1 100 31)) (fun S_3 => f_X7_send_444  hs_fuel x9 (0 : Int32) S_3))))
def f_X7_send_362 (x1 : Int32) (x2 : Int32) (x9 : Int32) (y1 : Int32) (y2 : Int32) (S : hs_M) : Option (Int32 × hs_M) := hs_ix y1 (hs_N 110) (hs_l (hs_U S 110 y1.toNatClampNeg y2) (fun S_1 => hs_ix x1 (hs_N 109) (hs_ix x1 (hs_N 109) (hs_l (hs_U S_1 109 x1.toNatClampNeg ((S_1 109 x1.toNatClampNeg) + (1 : Int32))) (fun S_2 => hs_ix x1 (hs_N 108) ((if (2 : Int32) ≤ (S_2 108 x1.toNatClampNeg) then f_X7_send_407  x1 x2 x9 S_2 else hs_ix x1 (hs_N 109) ((if (S_2 109 x1.toNatClampNeg) = (3 : Int32) then hs_ix x1 (hs_N 108) (hs_l (hs_U S_2 108 x1.toNatClampNeg (2 : Int32)) (fun S_3 => hs_ix x1 (hs_N 109) (hs_l (hs_U S_3 109 x1.toNatClampNeg (0 : Int32)) (fun S_4 => f_X7_send_407  x1 x2 x9 S_4)))) else f_X7_send_407  x1 x2 x9 S_2)))))))))
def f_X7_send_224 (x1 : Int32) (x2 : Int32) (x3 : Int32) (x4 : Int32) (x5 : Int32) (x6 : Int32) (S : hs_M) : Option (Int32 × hs_M) := hs_ix x1 (hs_N 102) (hs_bg (1 : Int32) (hs_l (hs_U S 102 x1.toNatClampNeg (1 : Int32)) (fun S_1 => hs_ix x1 (hs_N 103) (hs_l (hs_U S_1 103 x1.toNatClampNeg (S_1 100 1)) (fun S_2 => hs_ix x1 (hs_N 104) (hs_l (hs_U S_2 104 x1.toNatClampNeg (S_2 100 2)) (fun S_3 => hs_ix x1 (hs_N 101) (hs_ix x1 (hs_N 105) (hs_l (hs_U S_3 105 x1.toNatClampNeg (S_3 101 x1.toNatClampNeg)) (fun S_4 => hs_ix x1 (hs_N 106) (hs_l (hs_U S_4 106 x1.toNatClampNeg x5) (fun S_5 => hs_ix x1 (hs_N 107) (hs_l (hs_U S_5 107 x1.toNatClampNeg x6) (fun S_6 => hs_b2 (f_X7_choose x1 x2 S_6) (fun r_9 S_7 => hs_b1 (f_X7_fill (S_7 100 1) (S_7 100 2) (S_7 100 3) x2 x3 x4 S_7) (fun S_10 => hs_b1 (f_X7_write x1 r_9 x2 S_10) (fun S_12 => hs_ix r_9 (hs_N 125) (hs_ix r_9 (hs_N 125) (hs_l (hs_U S_12 125 r_9.toNatClampNeg ((S_12 125 r_9.toNatClampNeg) + (1 : Int32))) (fun S_14 => hs_ix (5 : Int32) (hs_N 125) (hs_ix (5 : Int32) (hs_N 125) (hs_l (hs_U S_14 125 (5 : Int32).toNatClampNeg ((S_14 125 (5 : Int32).toNatClampNeg) + (S_14 100 31))) (fun S_15 => (if r_9 = (4 : Int32) then f_X7_send_362  x1 x2 r_9 x1 (0 : Int32) S_15 else hs_ix x1 (hs_N 110) (f_X7_send_362  x1 x2 r_9 x1 ((S_15 110 x1.toNatClampNeg) + (1 : Int32)) S_15)))))))))))))))))))))))))
def f_X7_send_216 (x1 : Int32) (x2 : Int32) (x3 : Int32) (x4 : Int32) (x5 : Int32) (x6 : Int32) (y1 : Int32) (y2 : Int32) (S : hs_M) : Option (Int32 × hs_M) := hs_ix y1 (hs_N 108) (hs_l (hs_U S 108 y1.toNatClampNeg y2) (fun S_1 => hs_ix x1 (hs_N 109) (hs_l (hs_U S_1 109 x1.toNatClampNeg (0 : Int32)) (fun S_2 => f_X7_send_224  x1 x2 x3 x4 x5 x6 S_2))))
def f_X7_send_175 (x1 : Int32) (x2 : Int32) (x3 : Int32) (x4 : Int32) (x5 : Int32) (x6 : Int32) (S : hs_M) : Option (Int32 × hs_M) := hs_ix x1 (hs_N 108) (hs_l (hs_U S 108 x1.toNatClampNeg (0 : Int32)) (fun S_1 => hs_ix x1 (hs_N 109) (hs_l (hs_U S_1 109 x1.toNatClampNeg (0 : Int32)) (fun S_2 => f_X7_send_224  x1 x2 x3 x4 x5 x6 S_2))))
def f_X7_send_157 (x1 : Int32) (x2 : Int32) (x3 : Int32) (x4 : Int32) (x5 : Int32) (x6 : Int32) (x7 : Int32) (y0 : Int32) (S : hs_M) : Option (Int32 × hs_M) := (if x7 = 0 then f_X7_send_175  x1 x2 x3 x4 x5 x6 S else hs_ix x1 (hs_N 110) ((if (S 110 x1.toNatClampNeg) = (20 : Int32) then f_X7_send_175  x1 x2 x3 x4 x5 x6 S else (if y0 = 0 then hs_ix x1 (hs_N 108) ((if (S 108 x1.toNatClampNeg) = 0 then f_X7_send_216  x1 x2 x3 x4 x5 x6 x1 (0 : Int32) S else f_X7_send_216  x1 x2 x3 x4 x5 x6 x1 (1 : Int32) S)) else f_X7_send_224  x1 x2 x3 x4 x5 x6 S))))
def f_X7_send_156 (x1 : Int32) (x2 : Int32) (x3 : Int32) (x4 : Int32) (x5 : Int32) (x6 : Int32) (x7 : Int32) (S : hs_M) : Option (Int32 × hs_M) := f_X7_send_157  x1 x2 x3 x4 x5 x6 x7 (0 : Int32) S
def f_X7_send_123 (x1 : Int32) (x2 : Int32) (x3 : Int32) (x4 : Int32) (x5 : Int32) (x6 : Int32) (y0 : Int32) (S : hs_M) : Option (Int32 × hs_M) := (if y0 = 0 then f_X7_send_156  x1 x2 x3 x4 x5 x6 y0 S else hs_ix x1 (hs_N 106) ((if (S 106 x1.toNatClampNeg) = x5 then hs_ix x1 (hs_N 107) ((if (S 107 x1.toNatClampNeg) = x6 then f_X7_send_157  x1 x2 x3 x4 x5 x6 y0 (1 : Int32) S else f_X7_send_156  x1 x2 x3 x4 x5 x6 y0 S)) else f_X7_send_156  x1 x2 x3 x4 x5 x6 y0 S)))
def f_X7_send_122 (x1 : Int32) (x2 : Int32) (x3 : Int32) (x4 : Int32) (x5 : Int32) (x6 : Int32) (S : hs_M) : Option (Int32 × hs_M) := f_X7_send_123  x1 x2 x3 x4 x5 x6 (0 : Int32) S
def f_X7_send_35 (x1 : Int32) (x2 : Int32) (x3 : Int32) (x4 : Int32) (y1 : Int32) (S : hs_M) : Option (Int32 × hs_M) := hs_l (hs_U S 100 0 y1) (fun S_1 => (if (S_1 100 0) = 0 then hs_ix x1 (hs_N 101) (hs_l (x3 - (x2 * (S_1 101 x1.toNatClampNeg))) (fun x_2 => hs_l ((x4 - x2) &&& (65535 : Int32)) (fun x_3 => hs_ix x1 (hs_N 102) ((if (S_1 102 x1.toNatClampNeg) = 0 then f_X7_send_122  x1 x2 x3 x4 x_2 x_3 S_1 else hs_ix x1 (hs_N 103) ((if (S_1 103 x1.toNatClampNeg) = (S_1 100 1) then hs_ix x1 (hs_N 104) ((if (S_1 104 x1.toNatClampNeg) = (S_1 100 2) then hs_ix x1 (hs_N 105) (hs_ix x1 (hs_N 101) ((if (S_1 105 x1.toNatClampNeg) = (S_1 101 x1.toNatClampNeg) then f_X7_send_123  x1 x2 x3 x4 x_2 x_3 (1 : Int32) S_1 else f_X7_send_122  x1 x2 x3 x4 x_2 x_3 S_1))) else f_X7_send_122  x1 x2 x3 x4 x_2 x_3 S_1)) else f_X7_send_122  x1 x2 x3 x4 x_2 x_3 S_1))))))) else some ((0 : Int32), S_1)))
def f_X7_send_30 (x1 : Int32) (x2 : Int32) (x3 : Int32) (x4 : Int32) (S : hs_M) : Option (Int32 × hs_M) := f_X7_send_35  x1 x2 x3 x4 (2 : Int32) S
def f_X7_send_0 (x1 : Int32) (x2 : Int32) (x3 : Int32) (x4 : Int32) (S : hs_M) : Option (Int32 × hs_M) := hs_b2 (f_X7_noFlow x1 S) (fun r_3 S_1 => (if r_3 = 0 then hs_b2 (f_X7_outside x2 S_1) (fun r_6 S_4 => (if r_6 = 0 then hs_b2 (f_X7_outside x4 S_4) (fun r_9 S_7 => (if r_9 = 0 then f_X7_send_35  x1 x2 x3 x4 (0 : Int32) S_7 else f_X7_send_30  x1 x2 x3 x4 S_7)) else f_X7_send_30  x1 x2 x3 x4 S_4)) else f_X7_send_35  x1 x2 x3 x4 (1 : Int32) S_1))
def f_X7_send (a1 : Int32) (a2 : Int32) (a3 : Int32) (a4 : Int32) (S : hs_M) : Option (Int32 × hs_M) := f_X7_send_0 a1 a2 a3 a4 S
/-! HeaderSqueezeModel.sender -/
def f_X7_sender_100 (y0 : Int32) (S : hs_M) : Option (Int32 × hs_M) := some (y0, S)
def f_X7_sender_27 (x1 : Int32) (x2 : Int32) (y1 : Int32) (S : hs_M) : Option (Int32 × hs_M) := hs_l (hs_U S 100 0 y1) (fun S_1 => (if (S_1 100 0) = 0 then (if x2 = 0 then hs_ix x1 (hs_N 108) (f_X7_sender_100  (S_1 108 x1.toNatClampNeg) S_1) else (if x2 = (1 : Int32) then hs_ix x1 (hs_N 109) (f_X7_sender_100  (S_1 109 x1.toNatClampNeg) S_1) else (if x2 = (2 : Int32) then hs_ix x1 (hs_N 110) (f_X7_sender_100  (S_1 110 x1.toNatClampNeg) S_1) else (if x2 = (3 : Int32) then hs_ix x1 (hs_N 106) (f_X7_sender_100  (S_1 106 x1.toNatClampNeg) S_1) else hs_ix x1 (hs_N 107) (f_X7_sender_100  (S_1 107 x1.toNatClampNeg) S_1))))) else some ((0 : Int32), S_1)))
def f_X7_sender_22 (x1 : Int32) (x2 : Int32) (S : hs_M) : Option (Int32 × hs_M) := f_X7_sender_27  x1 x2 (2 : Int32) S
def f_X7_sender_0 (x1 : Int32) (x2 : Int32) (S : hs_M) : Option (Int32 × hs_M) := hs_b2 (f_X7_noFlow x1 S) (fun r_3 S_1 => (if r_3 = 0 then (if x2 < 0 then f_X7_sender_22  x1 x2 S_1 else (if x2 ≤ (4 : Int32) then f_X7_sender_27  x1 x2 (0 : Int32) S_1 else f_X7_sender_22  x1 x2 S_1)) else f_X7_sender_27  x1 x2 (1 : Int32) S_1))
def f_X7_sender (a1 : Int32) (a2 : Int32) (S : hs_M) : Option (Int32 × hs_M) := f_X7_sender_0 a1 a2 S
/-! HeaderSqueezeModel.size -/
def f_X7_size_34 (y0 : Int32) (S : hs_M) : Option (Int32 × hs_M) := some (y0, S)
def f_X7_size_14 (x1 : Int32) (y1 : Int32) (S : hs_M) : Option (Int32 × hs_M) := hs_l (hs_U S 100 0 y1) (fun S_1 => (if (S_1 100 0) = 0 then hs_ix x1 (hs_N 113) (f_X7_size_34  (S_1 113 x1.toNatClampNeg) S_1) else f_X7_size_34  (0 : Int32) S_1))
def f_X7_size_0 (x1 : Int32) (S : hs_M) : Option (Int32 × hs_M) := hs_b2 (f_X7_noPacket x1 S) (fun r_3 S_1 => (if r_3 = 0 then f_X7_size_14  x1 (0 : Int32) S_1 else f_X7_size_14  x1 (1 : Int32) S_1))
def f_X7_size (a1 : Int32) (S : hs_M) : Option (Int32 × hs_M) := f_X7_size_0 a1 S
/-! HeaderSqueezeModel.spoil -/
def f_X7_spoil_64 (S : hs_M) : Option hs_M := some S
def f_X7_spoil_30 (x1 : Int32) (x2 : Int32) (x3 : Int32) (y1 : Int32) (S : hs_M) : Option hs_M := hs_l (hs_U S 100 0 y1) (fun S_1 => (if (S_1 100 0) = 0 then hs_l (((20 : Int32) * x1) + x2) (fun x_2 => hs_ix x_2 (hs_N 114) (hs_ix (((20 : Int32) * x1) + x2) (hs_N 114) (hs_l (hs_U S_1 114 (((20 : Int32) * x1) + x2).toNatClampNeg ((S_1 114 x_2.toNatClampNeg) ^^^ x3)) (fun S_3 => f_X7_spoil_64   S_3)))) else f_X7_spoil_64   S_1))
def f_X7_spoil_25 (x1 : Int32) (x2 : Int32) (x3 : Int32) (S : hs_M) : Option hs_M := f_X7_spoil_30  x1 x2 x3 (2 : Int32) S
def f_X7_spoil_0 (x1 : Int32) (x2 : Int32) (x3 : Int32) (S : hs_M) : Option hs_M := hs_b2 (f_X7_noByte x1 x2 S) (fun r_3 S_1 => (if r_3 = 0 then (if x3 < 0 then f_X7_spoil_25  x1 x2 x3 S_1 else (if x3 ≤ (255 : Int32) then f_X7_spoil_30  x1 x2 x3 (0 : Int32) S_1 else f_X7_spoil_25  x1 x2 x3 S_1)) else f_X7_spoil_30  x1 x2 x3 (1 : Int32) S_1))
def f_X7_spoil (a1 : Int32) (a2 : Int32) (a3 : Int32) (S : hs_M) : Option hs_M := f_X7_spoil_0 a1 a2 a3 S
/-! HeaderSqueezeModel.stride -/
def f_X7_stride_43 (S : hs_M) : Option hs_M := some S
def f_X7_stride_26 (x1 : Int32) (x2 : Int32) (y1 : Int32) (S : hs_M) : Option hs_M := hs_l (hs_U S 100 0 y1) (fun S_1 => (if (S_1 100 0) = 0 then hs_ix x1 (hs_N 101) (hs_l (hs_U S_1 101 x1.toNatClampNeg x2) (fun S_2 => f_X7_stride_43   S_2)) else f_X7_stride_43   S_1))
def f_X7_stride_0 (x1 : Int32) (x2 : Int32) (S : hs_M) : Option hs_M := hs_b2 (f_X7_noFlow x1 S) (fun r_3 S_1 => (if r_3 = 0 then hs_b2 (f_X7_outside x2 S_1) (fun r_6 S_4 => (if r_6 = 0 then f_X7_stride_26  x1 x2 (0 : Int32) S_4 else f_X7_stride_26  x1 x2 (2 : Int32) S_4)) else f_X7_stride_26  x1 x2 (1 : Int32) S_1))
def f_X7_stride (a1 : Int32) (a2 : Int32) (S : hs_M) : Option hs_M := f_X7_stride_0 a1 a2 S
/-! HeaderSqueezeModel.thrown -/
def f_X7_thrown_0 (S : hs_M) : Option (Int32 × hs_M) := some ((S 100 0), S)
def f_X7_thrown  (S : hs_M) : Option (Int32 × hs_M) := f_X7_thrown_0  S
