set_option maxRecDepth 1000000 in
set_option maxHeartbeats 8000000 in
theorem cd_s12_0 {x1 : Int32} {L : Nat} {w : Bool} {I : Nat → Nat → Int32} {J : Nat → Nat → Int64} {r : cd_Ret} (h : (if (I 3 1) < 500 then (if cd_in (I 3 1) 500 = true then (some (none, (cd_mm L w (cd_up (cd_up I 4 (I 3 1).toNatClampNeg x1) 3 1 (((cd_up I 4 (I 3 1).toNatClampNeg x1) 3 1) + 1)) J))) else none) else some (none, (cd_mm L w I J))) = some r) : cd_go 12 0 [.ref 3, .int x1] [] (cd_mm L w I J) = some r := by
  refine cd_q12_0 ?_
  simp only [cd_zwI, cd_zwL, cd_zI, cd_zJ, cd_zcp, true_and, if_true, cd_zk_3, cd_zR_3_0, cd_zk_4, cd_zn_4]
  exact h
set_option maxRecDepth 1000000 in
set_option maxHeartbeats 8000000 in
theorem cd_s13_0 {x1 : Int32} {y2 : Int64} {L : Nat} {w : Bool} {I : Nat → Nat → Int32} {J : Nat → Nat → Int64} {r : cd_Ret} (h : (if x1 < 1 then (some (some (.int (-1002)), (cd_mm L w I J))) else if 8 < x1 then (some (some (.int (-1002)), (cd_mm L w I J))) else if 500 < ((I 3 1) + x1) then (some (some (.int (-1004)), (cd_mm L w I J))) else cd_go 13 21 [.ref 2, .int x1, .long y2, .null, .int (x1 - 1)] [] (cd_mm L w I J)) = some r) : cd_go 13 0 [.ref 2, .int x1, .long y2, .null, .null] [] (cd_mm L w I J) = some r := by
  refine cd_q13_0 ?_
  simp only [cd_zwI, cd_zwL, cd_zI, cd_zJ, cd_zcp, true_and, if_true, cd_zk_2, cd_zR_2_0, cd_zk_3]
  exact h
set_option maxRecDepth 1000000 in
set_option maxHeartbeats 8000000 in
theorem cd_s13_21 {x1 : Int32} {y2 : Int64} {x4 : Int32} {L : Nat} {w : Bool} {I : Nat → Nat → Int32} {J : Nat → Nat → Int64} {r : cd_Ret} (h : (if x4 < 0 then (some (some (.int (I 3 1)), (cd_mm L w I J))) else (cd_cv (cd_c 12 [.ref 3, .int ((((y2.toUInt64 >>> (((8 : Int32) * x4).toInt64.toUInt64 &&& Int64.toUInt64 63)).toInt64).toInt32) &&& 255)] (cd_mm L w I J))).bind fun m => cd_go 13 34 [.ref 2, .int x1, .long y2, .null, .int x4] [] m) = some r) : cd_go 13 21 [.ref 2, .int x1, .long y2, .null, .int x4] [] (cd_mm L w I J) = some r := by
  refine cd_q13_21 ?_
  simp only [cd_zwI, cd_zwL, cd_zI, cd_zJ, cd_zcp, true_and, if_true, cd_zk_2, cd_zR_2_0, cd_zk_3]
  exact h
set_option maxRecDepth 1000000 in
set_option maxHeartbeats 8000000 in
theorem cd_s13_34 {x1 : Int32} {y2 : Int64} {x4 : Int32} {L : Nat} {w : Bool} {I : Nat → Nat → Int32} {J : Nat → Nat → Int64} {r : cd_Ret} (h : (cd_go 13 21 [.ref 2, .int x1, .long y2, .null, .int (x4 + (-1))] [] (cd_mm L w I J)) = some r) : cd_go 13 34 [.ref 2, .int x1, .long y2, .null, .int x4] [] (cd_mm L w I J) = some r := cd_q13_34 h
set_option maxRecDepth 1000000 in
set_option maxHeartbeats 8000000 in
theorem cd_s14_0 {x0 : Int32} {L : Nat} {w : Bool} {I : Nat → Nat → Int32} {J : Nat → Nat → Int64} {r : cd_Ret} (h : (if x0 < 97 then (some (some (.int 0), (cd_mm L w I J))) else if 122 < x0 then (some (some (.int 0), (cd_mm L w I J))) else some (some (.int 1), (cd_mm L w I J))) = some r) : cd_go 14 0 [.int x0] [] (cd_mm L w I J) = some r := cd_q14_0 h
set_option maxRecDepth 1000000 in
set_option maxHeartbeats 8000000 in
theorem cd_s15_0 {x0 : Int32} {L : Nat} {w : Bool} {I : Nat → Nat → Int32} {J : Nat → Nat → Int64} {r : cd_Ret} (h : (if x0 < 48 then (some (some (.int 0), (cd_mm L w I J))) else if 57 < x0 then (some (some (.int 0), (cd_mm L w I J))) else some (some (.int 1), (cd_mm L w I J))) = some r) : cd_go 15 0 [.int x0] [] (cd_mm L w I J) = some r := cd_q15_0 h
set_option maxRecDepth 1000000 in
set_option maxHeartbeats 8000000 in
theorem cd_s16_0 {L : Nat} {w : Bool} {I : Nat → Nat → Int32} {J : Nat → Nat → Int64} {r : cd_Ret} (h : (if (I 3 2) < (I 3 1) then (if cd_in (I 3 2) 500 = true then (if (I 4 (I 3 2).toNatClampNeg) = 32 then (cd_go 16 0 [.ref 3] [] (cd_mm L w (cd_up I 3 2 ((I 3 2) + 1)) J)) else cd_go 16 19 [.ref 3] [] (cd_mm L w I J)) else none) else cd_go 16 19 [.ref 3] [] (cd_mm L w I J)) = some r) : cd_go 16 0 [.ref 3] [] (cd_mm L w I J) = some r := by
  refine cd_q16_0 ?_
  simp only [cd_zwI, cd_zwL, cd_zI, cd_zJ, cd_zcp, true_and, if_true, cd_zk_3, cd_zR_3_0, cd_zk_4, cd_zn_4]
  exact h
set_option maxRecDepth 1000000 in
set_option maxHeartbeats 8000000 in
theorem cd_s16_19 {L : Nat} {w : Bool} {I : Nat → Nat → Int32} {J : Nat → Nat → Int64} {r : cd_Ret} (h : (if ((cd_up (cd_up I 3 4 (I 3 2)) 3 5 0) 3 2) < ((cd_up (cd_up I 3 4 (I 3 2)) 3 5 0) 3 1) then (if cd_in ((cd_up (cd_up I 3 4 (I 3 2)) 3 5 0) 3 2) 500 = true then ((cd_ci (cd_c 14 [.int ((cd_up (cd_up I 3 4 (I 3 2)) 3 5 0) 4 ((cd_up (cd_up I 3 4 (I 3 2)) 3 5 0) 3 2).toNatClampNeg)] (cd_mm L w (cd_up (cd_up I 3 4 (I 3 2)) 3 5 0) J))).bind fun q => cd_go 16 41 [.ref 3] [.int q.1] q.2) else none) else some (none, (cd_mm L w (cd_up (cd_up (cd_up I 3 4 (I 3 2)) 3 5 0) 3 3 0) J))) = some r) : cd_go 16 19 [.ref 3] [] (cd_mm L w I J) = some r := by
  refine cd_q16_19 ?_
  simp only [cd_zwI, cd_zwL, cd_zI, cd_zJ, cd_zcp, true_and, if_true, cd_zk_3, cd_zR_3_0, cd_zk_4, cd_zn_4]
  exact h
set_option maxRecDepth 1000000 in
set_option maxHeartbeats 8000000 in
theorem cd_s16_41 {s0 : Int32} {L : Nat} {w : Bool} {I : Nat → Nat → Int32} {J : Nat → Nat → Int64} {r : cd_Ret} (h : (if s0 = 0 then (if cd_in (I 3 2) 500 = true then ((cd_ci (cd_c 15 [.int (I 4 (I 3 2).toNatClampNeg)] (cd_mm L w I J))).bind fun q => cd_go 16 70 [.ref 3] [.int q.1] q.2) else none) else cd_go 16 45 [.ref 3] [] (cd_mm L w (cd_up I 3 3 1) J)) = some r) : cd_go 16 41 [.ref 3] [.int s0] (cd_mm L w I J) = some r := by
  refine cd_q16_41 ?_
  simp only [cd_zwI, cd_zwL, cd_zI, cd_zJ, cd_zcp, true_and, if_true, cd_zk_3, cd_zR_3_0, cd_zk_4, cd_zn_4]
  exact h
set_option maxRecDepth 1000000 in
set_option maxHeartbeats 8000000 in
theorem cd_s16_45 {L : Nat} {w : Bool} {I : Nat → Nat → Int32} {J : Nat → Nat → Int64} {r : cd_Ret} (h : (if (I 3 2) < (I 3 1) then (if cd_in (I 3 2) 500 = true then ((cd_ci (cd_c 14 [.int (I 4 (I 3 2).toNatClampNeg)] (cd_mm L w I J))).bind fun q => cd_go 16 56 [.ref 3] [.int q.1] q.2) else none) else some (none, (cd_mm L w I J))) = some r) : cd_go 16 45 [.ref 3] [] (cd_mm L w I J) = some r := by
  refine cd_q16_45 ?_
  simp only [cd_zwI, cd_zwL, cd_zI, cd_zJ, cd_zcp, true_and, if_true, cd_zk_3, cd_zR_3_0, cd_zk_4, cd_zn_4]
  exact h
set_option maxRecDepth 1000000 in
set_option maxHeartbeats 8000000 in
theorem cd_s16_56 {s0 : Int32} {L : Nat} {w : Bool} {I : Nat → Nat → Int32} {J : Nat → Nat → Int64} {r : cd_Ret} (h : (if s0 = 0 then (some (none, (cd_mm L w I J))) else cd_go 16 45 [.ref 3] [] (cd_mm L w (cd_up I 3 2 ((I 3 2) + 1)) J)) = some r) : cd_go 16 56 [.ref 3] [.int s0] (cd_mm L w I J) = some r := by
  refine cd_q16_56 ?_
  simp only [cd_zwI, cd_zwL, cd_zI, cd_zJ, cd_zcp, true_and, if_true, cd_zk_3]
  exact h
set_option maxRecDepth 1000000 in
set_option maxHeartbeats 8000000 in
theorem cd_s16_70 {s0 : Int32} {L : Nat} {w : Bool} {I : Nat → Nat → Int32} {J : Nat → Nat → Int64} {r : cd_Ret} (h : (if s0 = 0 then (some (none, (cd_mm L w (cd_up (cd_up I 3 3 3) 3 2 (((cd_up I 3 3 3) 3 2) + 1)) J))) else cd_go 16 74 [.ref 3] [] (cd_mm L w (cd_up I 3 3 2) J)) = some r) : cd_go 16 70 [.ref 3] [.int s0] (cd_mm L w I J) = some r := by
  refine cd_q16_70 ?_
  simp only [cd_zwI, cd_zwL, cd_zI, cd_zJ, cd_zcp, true_and, if_true, cd_zk_3]
  exact h
set_option maxRecDepth 1000000 in
set_option maxHeartbeats 8000000 in
theorem cd_s16_74 {L : Nat} {w : Bool} {I : Nat → Nat → Int32} {J : Nat → Nat → Int64} {r : cd_Ret} (h : (if (I 3 2) < (I 3 1) then (if cd_in (I 3 2) 500 = true then ((cd_ci (cd_c 15 [.int (I 4 (I 3 2).toNatClampNeg)] (cd_mm L w I J))).bind fun q => cd_go 16 85 [.ref 3] [.int q.1] q.2) else none) else some (none, (cd_mm L w I J))) = some r) : cd_go 16 74 [.ref 3] [] (cd_mm L w I J) = some r := by
  refine cd_q16_74 ?_
  simp only [cd_zwI, cd_zwL, cd_zI, cd_zJ, cd_zcp, true_and, if_true, cd_zk_3, cd_zR_3_0, cd_zk_4, cd_zn_4]
  exact h
set_option maxRecDepth 1000000 in
set_option maxHeartbeats 8000000 in
theorem cd_s16_85 {s0 : Int32} {L : Nat} {w : Bool} {I : Nat → Nat → Int32} {J : Nat → Nat → Int64} {r : cd_Ret} (h : (if s0 = 0 then (some (none, (cd_mm L w I J))) else if cd_in (I 3 2) 500 = true then (cd_go 16 74 [.ref 3] [] (cd_mm L w (cd_up (cd_up I 3 5 (if ((((I 3 5) * 10) + (I 4 (I 3 2).toNatClampNeg)) - 48) < (999 : Int32) then ((((I 3 5) * 10) + (I 4 (I 3 2).toNatClampNeg)) - 48) else (999 : Int32))) 3 2 (((cd_up I 3 5 (if ((((I 3 5) * 10) + (I 4 (I 3 2).toNatClampNeg)) - 48) < (999 : Int32) then ((((I 3 5) * 10) + (I 4 (I 3 2).toNatClampNeg)) - 48) else (999 : Int32))) 3 2) + 1)) J)) else none) = some r) : cd_go 16 85 [.ref 3] [.int s0] (cd_mm L w I J) = some r := by
  refine cd_q16_85 ?_
  simp only [cd_zwI, cd_zwL, cd_zI, cd_zJ, cd_zcp, true_and, if_true, cd_zk_3, cd_zR_3_0, cd_zk_4, cd_zn_4]
  exact h
set_option maxRecDepth 1000000 in
set_option maxHeartbeats 8000000 in
theorem cd_s17_0 {L : Nat} {w : Bool} {I : Nat → Nat → Int32} {J : Nat → Nat → Int64} {r : cd_Ret} (h : ((cd_cv (cd_c 16 [.ref 3] (cd_mm L w (cd_up (cd_up (cd_up I 3 2 0) 3 7 0) 3 8 (-1)) J))).bind fun m => cd_go 17 11 [.ref 3] [] m) = some r) : cd_go 17 0 [.ref 3] [] (cd_mm L w I J) = some r := by
  refine cd_q17_0 ?_
  simp only [cd_zwI, cd_zwL, cd_zI, cd_zJ, cd_zcp, true_and, if_true, cd_zk_3]
  exact h
set_option maxRecDepth 1000000 in
set_option maxHeartbeats 8000000 in
theorem cd_s17_11 {L : Nat} {w : Bool} {I : Nat → Nat → Int32} {J : Nat → Nat → Int64} {r : cd_Ret} (h : (some (none, (cd_mm L w I J))) = some r) : cd_go 17 11 [.ref 3] [] (cd_mm L w I J) = some r := cd_q17_11 h
set_option maxRecDepth 1000000 in
set_option maxHeartbeats 8000000 in
theorem cd_s18_0 {p : Nat} (hp : p = 66 ∨ p = 83) {L : Nat} {w : Bool} {I : Nat → Nat → Int32} {J : Nat → Nat → Int64} {r : cd_Ret} (h : (some (none, (cd_mm L w (cd_up (cd_up (cd_up (cd_up (cd_up (cd_up (cd_up (cd_up (cd_up I p 0 0) p 1 0) p 2 0) p 3 0) p 16 60) p 17 10) p 18 0) (p + 13) 1 0) (p + 13) 2 0) J))) = some r) : cd_go 18 0 [.ref p] [] (cd_mm L w I J) = some r := by
  refine cd_q18_0 ?_
  simp only [cd_zwI, cd_zwL, cd_zI, cd_zJ, cd_zcp, true_and, if_true, cd_zk_p0_66_83 hp, cd_zR_p0_66_83_19 hp, cd_zk_p13_66_83 hp]
  exact h
set_option maxRecDepth 1000000 in
set_option maxHeartbeats 8000000 in
theorem cd_s19_0 {L : Nat} {w : Bool} {I : Nat → Nat → Int32} {J : Nat → Nat → Int64} {r : cd_Ret} (h : (if (I 3 7) = 0 then (if (I 3 3) = 0 then (some (some (.int 0), (cd_mm L w I J))) else some (some (.int 1), (cd_mm L w I J))) else some (some (.int 0), (cd_mm L w I J))) = some r) : cd_go 19 0 [.ref 3] [] (cd_mm L w I J) = some r := by
  refine cd_q19_0 ?_
  simp only [cd_zwI, cd_zwL, cd_zI, cd_zJ, cd_zcp, true_and, if_true, cd_zk_3]
  exact h
set_option maxRecDepth 1000000 in
set_option maxHeartbeats 8000000 in
theorem cd_s20_0 {g : Nat} {L : Nat} {w : Bool} {I : Nat → Nat → Int32} {J : Nat → Nat → Int64} {r : cd_Ret} (h : (if (I 3 3) = 1 then (if 1000 ≤ g ∧ g < 1015 then (if ((I 3 2) - (I 3 4)) = (Int32.ofNat (cd_str g).length) then (cd_go 20 16 [.ref 3, .ref g, .int 0] [] (cd_mm L w I J)) else some (some (.int 0), (cd_mm L w I J))) else none) else some (some (.int 0), (cd_mm L w I J))) = some r) : cd_go 20 0 [.ref 3, .ref g, .null] [] (cd_mm L w I J) = some r := by
  refine cd_q20_0 ?_
  simp only [cd_zwI, cd_zwL, cd_zI, cd_zJ, cd_zcp, true_and, if_true, cd_zk_3]
  exact h
set_option maxRecDepth 1000000 in
set_option maxHeartbeats 8000000 in
theorem cd_s20_16 {x2 : Int32} {g : Nat} {L : Nat} {w : Bool} {I : Nat → Nat → Int32} {J : Nat → Nat → Int64} {r : cd_Ret} (h : (if 1000 ≤ g ∧ g < 1015 then (if x2 < (Int32.ofNat (cd_str g).length) then (if cd_in ((I 3 4) + x2) 500 = true then (if 1000 ≤ g ∧ g < 1015 ∧ cd_in x2 (cd_str g).length = true then (if (I 4 ((I 3 4) + x2).toNatClampNeg) = (Int32.ofNat ((cd_str g).getD x2.toNatClampNeg 0)) then (cd_go 20 16 [.ref 3, .ref g, .int (x2 + 1)] [] (cd_mm L w I J)) else some (some (.int 0), (cd_mm L w I J))) else none) else none) else some (some (.int 1), (cd_mm L w I J))) else none) = some r) : cd_go 20 16 [.ref 3, .ref g, .int x2] [] (cd_mm L w I J) = some r := by
  refine cd_q20_16 ?_
  simp only [cd_zwI, cd_zwL, cd_zI, cd_zJ, cd_zcp, true_and, if_true, cd_zk_3, cd_zR_3_0, cd_zk_4, cd_zn_4]
  exact h
set_option maxRecDepth 1000000 in
set_option maxHeartbeats 8000000 in
theorem cd_s21_0 {g : Nat} {L : Nat} {w : Bool} {I : Nat → Nat → Int32} {J : Nat → Nat → Int64} {r : cd_Ret} (h : (if (I 3 7) = 0 then ((cd_ci (cd_c 20 [.ref 3, .ref g] (cd_mm L w I J))).bind fun q => cd_go 21 6 [.ref 3, .ref g] [.int q.1] q.2) else some (some (.int 0), (cd_mm L w I J))) = some r) : cd_go 21 0 [.ref 3, .ref g] [] (cd_mm L w I J) = some r := by
  refine cd_q21_0 ?_
  simp only [cd_zwI, cd_zwL, cd_zI, cd_zJ, cd_zcp, true_and, if_true, cd_zk_3]
  exact h
set_option maxRecDepth 1000000 in
set_option maxHeartbeats 8000000 in
theorem cd_s21_6 {s0 : Int32} {g : Nat} {L : Nat} {w : Bool} {I : Nat → Nat → Int32} {J : Nat → Nat → Int64} {r : cd_Ret} (h : (if s0 = 0 then (some (some (.int 0), (cd_mm L w I J))) else (cd_cv (cd_c 16 [.ref 3] (cd_mm L w I J))).bind fun m => cd_go 21 11 [.ref 3, .ref g] [] m) = some r) : cd_go 21 6 [.ref 3, .ref g] [.int s0] (cd_mm L w I J) = some r := by
  refine cd_q21_6 ?_
  simp only [cd_zwI, cd_zwL, cd_zI, cd_zJ, cd_zcp, true_and, if_true, cd_zk_3]
  exact h
set_option maxRecDepth 1000000 in
set_option maxHeartbeats 8000000 in
theorem cd_s21_11 {g : Nat} {L : Nat} {w : Bool} {I : Nat → Nat → Int32} {J : Nat → Nat → Int64} {r : cd_Ret} (h : (some (some (.int 1), (cd_mm L w I J))) = some r) : cd_go 21 11 [.ref 3, .ref g] [] (cd_mm L w I J) = some r := cd_q21_11 h
set_option maxRecDepth 1000000 in
set_option maxHeartbeats 8000000 in
theorem cd_s22_0 {x1 : Int32} {x2 : Int32} {L : Nat} {w : Bool} {I : Nat → Nat → Int32} {J : Nat → Nat → Int64} {r : cd_Ret} (h : (if (I 3 7) = 0 then (some (none, (cd_mm L w (cd_up (cd_up I 3 7 x1) 3 8 x2) J))) else some (none, (cd_mm L w I J))) = some r) : cd_go 22 0 [.ref 3, .int x1, .int x2] [] (cd_mm L w I J) = some r := by
  refine cd_q22_0 ?_
  simp only [cd_zwI, cd_zwL, cd_zI, cd_zJ, cd_zcp, true_and, if_true, cd_zk_3]
  exact h
set_option maxRecDepth 1000000 in
set_option maxHeartbeats 8000000 in
theorem cd_s23_0 {x1 : Int32} {x2 : Int32} {L : Nat} {w : Bool} {I : Nat → Nat → Int32} {J : Nat → Nat → Int64} {r : cd_Ret} (h : (if (I 3 7) = 0 then (if ((cd_up I 3 6 (I 3 4)) 3 3) = 2 then (if 2 < (((cd_up I 3 6 (I 3 4)) 3 2) - ((cd_up I 3 6 (I 3 4)) 3 4)) then ((cd_cv (cd_c 22 [.ref 3, .int 2, .int ((cd_up I 3 6 (I 3 4)) 3 4)] (cd_mm L w (cd_up I 3 6 (I 3 4)) J))).bind fun m => cd_go 23 40 [.ref 3, .int x1, .int x2, .null] [] m) else if ((cd_up I 3 6 (I 3 4)) 3 5) < x1 then ((cd_cv (cd_c 22 [.ref 3, .int 2, .int ((cd_up I 3 6 (I 3 4)) 3 4)] (cd_mm L w (cd_up I 3 6 (I 3 4)) J))).bind fun m => cd_go 23 40 [.ref 3, .int x1, .int x2, .null] [] m) else if x2 < ((cd_up I 3 6 (I 3 4)) 3 5) then ((cd_cv (cd_c 22 [.ref 3, .int 2, .int ((cd_up I 3 6 (I 3 4)) 3 4)] (cd_mm L w (cd_up I 3 6 (I 3 4)) J))).bind fun m => cd_go 23 40 [.ref 3, .int x1, .int x2, .null] [] m) else (cd_cv (cd_c 16 [.ref 3] (cd_mm L w (cd_up I 3 6 (I 3 4)) J))).bind fun m => cd_go 23 47 [.ref 3, .int x1, .int x2, .int ((cd_up I 3 6 (I 3 4)) 3 5)] [] m) else (cd_cv (cd_c 22 [.ref 3, .int 1, .int ((cd_up I 3 6 (I 3 4)) 3 4)] (cd_mm L w (cd_up I 3 6 (I 3 4)) J))).bind fun m => cd_go 23 18 [.ref 3, .int x1, .int x2, .null] [] m) else some (some (.int x1), (cd_mm L w I J))) = some r) : cd_go 23 0 [.ref 3, .int x1, .int x2, .null] [] (cd_mm L w I J) = some r := by
  refine cd_q23_0 ?_
  simp only [cd_zwI, cd_zwL, cd_zI, cd_zJ, cd_zcp, true_and, if_true, cd_zk_3]
  exact h
set_option maxRecDepth 1000000 in
set_option maxHeartbeats 8000000 in
theorem cd_s23_18 {x1 : Int32} {x2 : Int32} {L : Nat} {w : Bool} {I : Nat → Nat → Int32} {J : Nat → Nat → Int64} {r : cd_Ret} (h : (some (some (.int x1), (cd_mm L w I J))) = some r) : cd_go 23 18 [.ref 3, .int x1, .int x2, .null] [] (cd_mm L w I J) = some r := cd_q23_18 h
set_option maxRecDepth 1000000 in
set_option maxHeartbeats 8000000 in
theorem cd_s23_40 {x1 : Int32} {x2 : Int32} {L : Nat} {w : Bool} {I : Nat → Nat → Int32} {J : Nat → Nat → Int64} {r : cd_Ret} (h : (some (some (.int x1), (cd_mm L w I J))) = some r) : cd_go 23 40 [.ref 3, .int x1, .int x2, .null] [] (cd_mm L w I J) = some r := cd_q23_40 h
set_option maxRecDepth 1000000 in
set_option maxHeartbeats 8000000 in
theorem cd_s23_47 {x1 : Int32} {x2 : Int32} {x3 : Int32} {L : Nat} {w : Bool} {I : Nat → Nat → Int32} {J : Nat → Nat → Int64} {r : cd_Ret} (h : (some (some (.int x3), (cd_mm L w I J))) = some r) : cd_go 23 47 [.ref 3, .int x1, .int x2, .int x3] [] (cd_mm L w I J) = some r := cd_q23_47 h
set_option maxRecDepth 1000000 in
set_option maxHeartbeats 8000000 in
theorem cd_s24_0 {x1 : Int32} {s : Nat} (hs : s = 22 ∨ s = 45 ∨ s = 79 ∨ s = 96) {L : Nat} {w : Bool} {I : Nat → Nat → Int32} {J : Nat → Nat → Int64} {r : cd_Ret} (h : (cd_go 24 4 [.ref s, .int x1, .long 0, .null, .int 0] [] (cd_mm L w I J)) = some r) : cd_go 24 0 [.ref s, .int x1, .null, .null, .null] [] (cd_mm L w I J) = some r := cd_q24_0 h
set_option maxRecDepth 1000000 in
set_option maxHeartbeats 8000000 in
theorem cd_s24_4 {x1 : Int32} {y2 : Int64} {x4 : Int32} {s : Nat} (hs : s = 22 ∨ s = 45 ∨ s = 79 ∨ s = 96) {L : Nat} {w : Bool} {I : Nat → Nat → Int32} {J : Nat → Nat → Int64} {r : cd_Ret} (h : (if x4 < x1 then (if cd_in x4 8 = true then (cd_go 24 4 [.ref s, .int x1, .long (y2 ||| ((1 : Int64) <<< ((I (s + 1) x4.toNatClampNeg).toInt64 &&& 63))), .null, .int (x4 + 1)] [] (cd_mm L w I J)) else none) else some (some (.long y2), (cd_mm L w I J))) = some r) : cd_go 24 4 [.ref s, .int x1, .long y2, .null, .int x4] [] (cd_mm L w I J) = some r := by
  refine cd_q24_4 ?_
  simp only [cd_zwI, cd_zwL, cd_zI, cd_zJ, cd_zcp, true_and, if_true, cd_zk_s0_22_45_79_96 hs, cd_zR_s0_22_45_79_96_0 hs, cd_zk_s1_22_45_79_96 hs, cd_zn_s1_22_45_79_96 hs]
  exact h
set_option maxRecDepth 1000000 in
set_option maxHeartbeats 8000000 in
theorem cd_s25_0 {x2 : Int32} {p : Nat} (hp : p = 66 ∨ p = 83) {L : Nat} {w : Bool} {I : Nat → Nat → Int32} {J : Nat → Nat → Int64} {r : cd_Ret} (h : (if (I p 0) < 8 then ((cd_ci (cd_c 23 [.ref 3, .int 0, .int 63] (cd_mm L w I J))).bind fun q => cd_go 25 15 [.ref p, .ref 3, .int x2, .int (I p 0), .null] [.int q.1] q.2) else (cd_cv (cd_c 22 [.ref 3, .int 4, .int x2] (cd_mm L w I J))).bind fun m => cd_go 25 10 [.ref p, .ref 3, .int x2, .int (I p 0), .null] [] m) = some r) : cd_go 25 0 [.ref p, .ref 3, .int x2, .null, .null] [] (cd_mm L w I J) = some r := by
  refine cd_q25_0 ?_
  simp only [cd_zwI, cd_zwL, cd_zI, cd_zJ, cd_zcp, true_and, if_true, cd_zk_p0_66_83 hp, cd_zk_3]
  exact h
set_option maxRecDepth 1000000 in
set_option maxHeartbeats 8000000 in
theorem cd_s25_10 {x2 : Int32} {x3 : Int32} {p : Nat} (hp : p = 66 ∨ p = 83) {L : Nat} {w : Bool} {I : Nat → Nat → Int32} {J : Nat → Nat → Int64} {r : cd_Ret} (h : (some (none, (cd_mm L w I J))) = some r) : cd_go 25 10 [.ref p, .ref 3, .int x2, .int x3, .null] [] (cd_mm L w I J) = some r := cd_q25_10 h
set_option maxRecDepth 1000000 in
set_option maxHeartbeats 8000000 in
theorem cd_s25_15 {x2 : Int32} {x3 : Int32} {s0 : Int32} {p : Nat} (hp : p = 66 ∨ p = 83) {L : Nat} {w : Bool} {I : Nat → Nat → Int32} {J : Nat → Nat → Int64} {r : cd_Ret} (h : ((cd_cl (cd_c 24 [.ref (p + 13), .int x3] (cd_mm L w I J))).bind fun q => cd_go 25 20 [.ref p, .ref 3, .int x2, .int x3, .int s0] [.long q.1] q.2) = some r) : cd_go 25 15 [.ref p, .ref 3, .int x2, .int x3, .null] [.int s0] (cd_mm L w I J) = some r := by
  refine cd_q25_15 ?_
  simp only [cd_zwI, cd_zwL, cd_zI, cd_zJ, cd_zcp, true_and, if_true, cd_zk_p0_66_83 hp, cd_zR_p0_66_83_19 hp, cd_zk_p13_66_83 hp]
  exact h
set_option maxRecDepth 1000000 in
set_option maxHeartbeats 8000000 in
theorem cd_s25_20 {x2 : Int32} {x3 : Int32} {x4 : Int32} {t0 : Int64} {p : Nat} (hp : p = 66 ∨ p = 83) {L : Nat} {w : Bool} {I : Nat → Nat → Int32} {J : Nat → Nat → Int64} {r : cd_Ret} (h : (if (lg_cmp (((t0.toUInt64 >>> (x4.toInt64.toUInt64 &&& Int64.toUInt64 63)).toInt64) &&& 1) 0) = 0 then (cd_go 25 32 [.ref p, .ref 3, .int x2, .int x3, .int x4] [] (cd_mm L w I J)) else (cd_cv (cd_c 22 [.ref 3, .int 3, .int (I 3 6)] (cd_mm L w I J))).bind fun m => cd_go 25 32 [.ref p, .ref 3, .int x2, .int x3, .int x4] [] m) = some r) : cd_go 25 20 [.ref p, .ref 3, .int x2, .int x3, .int x4] [.long t0] (cd_mm L w I J) = some r := by
  refine cd_q25_20 ?_
  simp only [cd_zwI, cd_zwL, cd_zI, cd_zJ, cd_zcp, true_and, if_true, cd_zk_3]
  exact h
set_option maxRecDepth 1000000 in
set_option maxHeartbeats 8000000 in
theorem cd_s25_32 {x2 : Int32} {x3 : Int32} {x4 : Int32} {p : Nat} (hp : p = 66 ∨ p = 83) {L : Nat} {w : Bool} {I : Nat → Nat → Int32} {J : Nat → Nat → Int64} {r : cd_Ret} (h : (if cd_in x3 8 = true then ((cd_ci (cd_c 23 [.ref 3, .int 1, .int 20] (cd_mm L w (cd_up I (p + 14) x3.toNatClampNeg x4) J))).bind fun q => cd_go 25 45 [.ref p, .ref 3, .int x2, .int x3, .int x4] [.int q.1, .int x3, .ref (p + 1)] q.2) else none) = some r) : cd_go 25 32 [.ref p, .ref 3, .int x2, .int x3, .int x4] [] (cd_mm L w I J) = some r := by
  refine cd_q25_32 ?_
  simp only [cd_zwI, cd_zwL, cd_zI, cd_zJ, cd_zcp, true_and, if_true, cd_zk_p0_66_83 hp, cd_zR_p0_66_83_19 hp, cd_zk_p13_66_83 hp, cd_zR_p13_66_83_0 hp, cd_zk_p14_66_83 hp, cd_zn_p14_66_83 hp, cd_zR_p0_66_83_4 hp, cd_zk_3]
  exact h
set_option maxRecDepth 1000000 in
set_option maxHeartbeats 8000000 in
theorem cd_s25_45 {x2 : Int32} {x3 : Int32} {x4 : Int32} {s1 : Int32} {s2 : Int32} {p : Nat} (hp : p = 66 ∨ p = 83) {L : Nat} {w : Bool} {I : Nat → Nat → Int32} {J : Nat → Nat → Int64} {r : cd_Ret} (h : (if cd_in s1 8 = true then ((cd_ci (cd_c 23 [.ref 3, .int 1, .int 99] (cd_mm L w (cd_up I (p + 1) s1.toNatClampNeg s2) J))).bind fun q => cd_go 25 53 [.ref p, .ref 3, .int x2, .int x3, .int x4] [.int q.1, .int x3, .ref (p + 2)] q.2) else none) = some r) : cd_go 25 45 [.ref p, .ref 3, .int x2, .int x3, .int x4] [.int s2, .int s1, .ref (p + 1)] (cd_mm L w I J) = some r := by
  refine cd_q25_45 ?_
  simp only [cd_zwI, cd_zwL, cd_zI, cd_zJ, cd_zcp, true_and, if_true, cd_zk_p1_66_83 hp, cd_zn_p1_66_83 hp, cd_zk_p0_66_83 hp, cd_zR_p0_66_83_5 hp, cd_zk_3]
  exact h
set_option maxRecDepth 1000000 in
set_option maxHeartbeats 8000000 in
theorem cd_s25_53 {x2 : Int32} {x3 : Int32} {x4 : Int32} {s1 : Int32} {s2 : Int32} {p : Nat} (hp : p = 66 ∨ p = 83) {L : Nat} {w : Bool} {I : Nat → Nat → Int32} {J : Nat → Nat → Int64} {r : cd_Ret} (h : (if cd_in s1 8 = true then ((cd_ci (cd_c 23 [.ref 3, .int 0, .int 99] (cd_mm L w (cd_up I (p + 2) s1.toNatClampNeg s2) J))).bind fun q => cd_go 25 61 [.ref p, .ref 3, .int x2, .int x3, .int x4] [.int q.1, .int x3, .ref (p + 3)] q.2) else none) = some r) : cd_go 25 53 [.ref p, .ref 3, .int x2, .int x3, .int x4] [.int s2, .int s1, .ref (p + 2)] (cd_mm L w I J) = some r := by
  refine cd_q25_53 ?_
  simp only [cd_zwI, cd_zwL, cd_zI, cd_zJ, cd_zcp, true_and, if_true, cd_zk_p2_66_83 hp, cd_zn_p2_66_83 hp, cd_zk_p0_66_83 hp, cd_zR_p0_66_83_6 hp, cd_zk_3]
  exact h
set_option maxRecDepth 1000000 in
set_option maxHeartbeats 8000000 in
theorem cd_s25_61 {x2 : Int32} {x3 : Int32} {x4 : Int32} {s1 : Int32} {s2 : Int32} {p : Nat} (hp : p = 66 ∨ p = 83) {L : Nat} {w : Bool} {I : Nat → Nat → Int32} {J : Nat → Nat → Int64} {r : cd_Ret} (h : (if cd_in s1 8 = true then ((cd_ci (cd_c 23 [.ref 3, .int 1, .int 9] (cd_mm L w (cd_up I (p + 3) s1.toNatClampNeg s2) J))).bind fun q => cd_go 25 69 [.ref p, .ref 3, .int x2, .int x3, .int x4] [.int q.1, .int x3, .ref (p + 4)] q.2) else none) = some r) : cd_go 25 61 [.ref p, .ref 3, .int x2, .int x3, .int x4] [.int s2, .int s1, .ref (p + 3)] (cd_mm L w I J) = some r := by
  refine cd_q25_61 ?_
  simp only [cd_zwI, cd_zwL, cd_zI, cd_zJ, cd_zcp, true_and, if_true, cd_zk_p3_66_83 hp, cd_zn_p3_66_83 hp, cd_zk_p0_66_83 hp, cd_zR_p0_66_83_7 hp, cd_zk_3]
  exact h
set_option maxRecDepth 1000000 in
set_option maxHeartbeats 8000000 in
theorem cd_s25_69 {x2 : Int32} {x3 : Int32} {x4 : Int32} {s1 : Int32} {s2 : Int32} {p : Nat} (hp : p = 66 ∨ p = 83) {L : Nat} {w : Bool} {I : Nat → Nat → Int32} {J : Nat → Nat → Int64} {r : cd_Ret} (h : (if cd_in s1 8 = true then (some (none, (cd_mm L w (cd_up (cd_up I (p + 4) s1.toNatClampNeg s2) p 0 (((cd_up I (p + 4) s1.toNatClampNeg s2) p 0) + 1)) J))) else none) = some r) : cd_go 25 69 [.ref p, .ref 3, .int x2, .int x3, .int x4] [.int s2, .int s1, .ref (p + 4)] (cd_mm L w I J) = some r := by
  refine cd_q25_69 ?_
  simp only [cd_zwI, cd_zwL, cd_zI, cd_zJ, cd_zcp, true_and, if_true, cd_zk_p4_66_83 hp, cd_zn_p4_66_83 hp, cd_zk_p0_66_83 hp]
  exact h
set_option maxRecDepth 1000000 in
set_option maxHeartbeats 8000000 in
theorem cd_s26_0 {x1 : Int32} {p : Nat} (hp : p = 66 ∨ p = 83) {L : Nat} {w : Bool} {I : Nat → Nat → Int32} {J : Nat → Nat → Int64} {r : cd_Ret} (h : (if cd_in x1 3 = true then (if cd_in x1 3 = true then (if cd_in x1 3 = true then (cd_go 26 21 [.ref p, .int x1, .long ((((1 : Int64) <<< ((I (p + 7) x1.toNatClampNeg).toInt64 &&& 63)) - 1) <<< ((I (p + 5) x1.toNatClampNeg).toInt64 &&& 63)), .null, .int 0] [] (cd_mm L w I (cd_up J (p + 10) x1.toNatClampNeg 0))) else none) else none) else none) = some r) : cd_go 26 0 [.ref p, .int x1, .null, .null, .null] [] (cd_mm L w I J) = some r := by
  refine cd_q26_0 ?_
  simp only [cd_zwI, cd_zwL, cd_zI, cd_zJ, cd_zcp, true_and, if_true, cd_zk_p0_66_83 hp, cd_zR_p0_66_83_13 hp, cd_zk_p10_66_83 hp, cd_zn_p10_66_83 hp, cd_zR_p0_66_83_10 hp, cd_zk_p7_66_83 hp, cd_zn_p7_66_83 hp, cd_zR_p0_66_83_8 hp, cd_zk_p5_66_83 hp, cd_zn_p5_66_83 hp]
  exact h
set_option maxRecDepth 1000000 in
set_option maxHeartbeats 8000000 in
theorem cd_s26_21 {x1 : Int32} {y2 : Int64} {x4 : Int32} {p : Nat} (hp : p = 66 ∨ p = 83) {L : Nat} {w : Bool} {I : Nat → Nat → Int32} {J : Nat → Nat → Int64} {r : cd_Ret} (h : (if cd_in x1 3 = true then (if x4 < (I (p + 6) x1.toNatClampNeg) then (if cd_in x1 3 = true then (if cd_in x1 3 = true then (cd_go 26 21 [.ref p, .int x1, .long y2, .null, .int (x4 + 1)] [] (cd_mm L w I (cd_up J (p + 10) x1.toNatClampNeg ((J (p + 10) x1.toNatClampNeg) ||| (y2 <<< (((8 : Int32) * x4).toInt64 &&& 63)))))) else none) else none) else some (none, (cd_mm L w I J))) else none) = some r) : cd_go 26 21 [.ref p, .int x1, .long y2, .null, .int x4] [] (cd_mm L w I J) = some r := by
  refine cd_q26_21 ?_
  simp only [cd_zwI, cd_zwL, cd_zI, cd_zJ, cd_zcp, true_and, if_true, cd_zk_p0_66_83 hp, cd_zR_p0_66_83_9 hp, cd_zk_p6_66_83 hp, cd_zn_p6_66_83 hp, cd_zR_p0_66_83_13 hp, cd_zk_p10_66_83 hp, cd_zn_p10_66_83 hp]
  exact h
set_option maxRecDepth 1000000 in
set_option maxHeartbeats 8000000 in
theorem cd_s27_0 {x2 : Int32} {p : Nat} (hp : p = 66 ∨ p = 83) {L : Nat} {w : Bool} {I : Nat → Nat → Int32} {J : Nat → Nat → Int64} {r : cd_Ret} (h : (if (I p 1) < 3 then ((cd_ci (cd_c 23 [.ref 3, .int 0, .int 63] (cd_mm L w I J))).bind fun q => cd_go 27 18 [.ref p, .ref 3, .int x2, .int (I p 1)] [.int q.1, .int (I p 1), .ref (p + 5)] q.2) else (cd_cv (cd_c 22 [.ref 3, .int 4, .int x2] (cd_mm L w I J))).bind fun m => cd_go 27 10 [.ref p, .ref 3, .int x2, .int (I p 1)] [] m) = some r) : cd_go 27 0 [.ref p, .ref 3, .int x2, .null] [] (cd_mm L w I J) = some r := by
  refine cd_q27_0 ?_
  simp only [cd_zwI, cd_zwL, cd_zI, cd_zJ, cd_zcp, true_and, if_true, cd_zk_p0_66_83 hp, cd_zR_p0_66_83_8 hp, cd_zk_3]
  exact h
set_option maxRecDepth 1000000 in
set_option maxHeartbeats 8000000 in
theorem cd_s27_10 {x2 : Int32} {x3 : Int32} {p : Nat} (hp : p = 66 ∨ p = 83) {L : Nat} {w : Bool} {I : Nat → Nat → Int32} {J : Nat → Nat → Int64} {r : cd_Ret} (h : (some (none, (cd_mm L w I J))) = some r) : cd_go 27 10 [.ref p, .ref 3, .int x2, .int x3] [] (cd_mm L w I J) = some r := cd_q27_10 h
set_option maxRecDepth 1000000 in
set_option maxHeartbeats 8000000 in
theorem cd_s27_18 {x2 : Int32} {x3 : Int32} {s1 : Int32} {s2 : Int32} {p : Nat} (hp : p = 66 ∨ p = 83) {L : Nat} {w : Bool} {I : Nat → Nat → Int32} {J : Nat → Nat → Int64} {r : cd_Ret} (h : (if cd_in s1 3 = true then ((cd_ci (cd_c 23 [.ref 3, .int 1, .int 8] (cd_mm L w (cd_up I (p + 5) s1.toNatClampNeg s2) J))).bind fun q => cd_go 27 26 [.ref p, .ref 3, .int x2, .int x3] [.int q.1, .int x3, .ref (p + 6)] q.2) else none) = some r) : cd_go 27 18 [.ref p, .ref 3, .int x2, .int x3] [.int s2, .int s1, .ref (p + 5)] (cd_mm L w I J) = some r := by
  refine cd_q27_18 ?_
  simp only [cd_zwI, cd_zwL, cd_zI, cd_zJ, cd_zcp, true_and, if_true, cd_zk_p5_66_83 hp, cd_zn_p5_66_83 hp, cd_zk_p0_66_83 hp, cd_zR_p0_66_83_9 hp, cd_zk_3]
  exact h
set_option maxRecDepth 1000000 in
set_option maxHeartbeats 8000000 in
theorem cd_s27_26 {x2 : Int32} {x3 : Int32} {s1 : Int32} {s2 : Int32} {p : Nat} (hp : p = 66 ∨ p = 83) {L : Nat} {w : Bool} {I : Nat → Nat → Int32} {J : Nat → Nat → Int64} {r : cd_Ret} (h : (if cd_in s1 3 = true then ((cd_ci (cd_c 23 [.ref 3, .int 1, .int 8] (cd_mm L w (cd_up I (p + 6) s1.toNatClampNeg s2) J))).bind fun q => cd_go 27 34 [.ref p, .ref 3, .int x2, .int x3] [.int q.1, .int x3, .ref (p + 7)] q.2) else none) = some r) : cd_go 27 26 [.ref p, .ref 3, .int x2, .int x3] [.int s2, .int s1, .ref (p + 6)] (cd_mm L w I J) = some r := by
  refine cd_q27_26 ?_
  simp only [cd_zwI, cd_zwL, cd_zI, cd_zJ, cd_zcp, true_and, if_true, cd_zk_p6_66_83 hp, cd_zn_p6_66_83 hp, cd_zk_p0_66_83 hp, cd_zR_p0_66_83_10 hp, cd_zk_3]
  exact h
set_option maxRecDepth 1000000 in
set_option maxHeartbeats 8000000 in
theorem cd_s27_34 {x2 : Int32} {x3 : Int32} {s1 : Int32} {s2 : Int32} {p : Nat} (hp : p = 66 ∨ p = 83) {L : Nat} {w : Bool} {I : Nat → Nat → Int32} {J : Nat → Nat → Int64} {r : cd_Ret} (h : (if cd_in s1 3 = true then (if cd_in x3 3 = true then (if cd_in x3 3 = true then (if 8 < ((((cd_up I (p + 7) s1.toNatClampNeg s2) (p + 5) x3.toNatClampNeg) / 8) + ((cd_up I (p + 7) s1.toNatClampNeg s2) (p + 6) x3.toNatClampNeg)) then ((cd_cv (cd_c 22 [.ref 3, .int 5, .int ((cd_up I (p + 7) s1.toNatClampNeg s2) 3 6)] (cd_mm L w (cd_up I (p + 7) s1.toNatClampNeg s2) J))).bind fun m => cd_go 27 66 [.ref p, .ref 3, .int x2, .int x3] [] m) else if cd_in x3 3 = true then (if cd_in x3 3 = true then (if 8 < ((((cd_up I (p + 7) s1.toNatClampNeg s2) (p + 5) x3.toNatClampNeg) - ((cd_up I (p + 7) s1.toNatClampNeg s2) (p + 5) x3.toNatClampNeg) / 8 * 8) + ((cd_up I (p + 7) s1.toNatClampNeg s2) (p + 7) x3.toNatClampNeg)) then ((cd_cv (cd_c 22 [.ref 3, .int 5, .int ((cd_up I (p + 7) s1.toNatClampNeg s2) 3 6)] (cd_mm L w (cd_up I (p + 7) s1.toNatClampNeg s2) J))).bind fun m => cd_go 27 66 [.ref p, .ref 3, .int x2, .int x3] [] m) else (cd_cv (cd_c 26 [.ref p, .int x3] (cd_mm L w (cd_up I (p + 7) s1.toNatClampNeg s2) J))).bind fun m => cd_go 27 70 [.ref p, .ref 3, .int x2, .int x3] [] m) else none) else none) else none) else none) else none) = some r) : cd_go 27 34 [.ref p, .ref 3, .int x2, .int x3] [.int s2, .int s1, .ref (p + 7)] (cd_mm L w I J) = some r := by
  refine cd_q27_34 ?_
  simp only [cd_zwI, cd_zwL, cd_zI, cd_zJ, cd_zcp, true_and, if_true, cd_zk_p7_66_83 hp, cd_zn_p7_66_83 hp, cd_zk_p0_66_83 hp, cd_zR_p0_66_83_8 hp, cd_zk_p5_66_83 hp, cd_zn_p5_66_83 hp, cd_zR_p0_66_83_9 hp, cd_zk_p6_66_83 hp, cd_zn_p6_66_83 hp, cd_zk_3, cd_zR_p0_66_83_10 hp]
  exact h
set_option maxRecDepth 1000000 in
set_option maxHeartbeats 8000000 in
theorem cd_s27_66 {x2 : Int32} {x3 : Int32} {p : Nat} (hp : p = 66 ∨ p = 83) {L : Nat} {w : Bool} {I : Nat → Nat → Int32} {J : Nat → Nat → Int64} {r : cd_Ret} (h : (some (none, (cd_mm L w I J))) = some r) : cd_go 27 66 [.ref p, .ref 3, .int x2, .int x3] [] (cd_mm L w I J) = some r := cd_q27_66 h
set_option maxRecDepth 1000000 in
set_option maxHeartbeats 8000000 in
theorem cd_s27_70 {x2 : Int32} {x3 : Int32} {p : Nat} (hp : p = 66 ∨ p = 83) {L : Nat} {w : Bool} {I : Nat → Nat → Int32} {J : Nat → Nat → Int64} {r : cd_Ret} (h : ((cd_ci (cd_c 23 [.ref 3, .int 1, .int 9] (cd_mm L w I J))).bind fun q => cd_go 27 77 [.ref p, .ref 3, .int x2, .int x3] [.int q.1, .int x3, .ref (p + 8)] q.2) = some r) : cd_go 27 70 [.ref p, .ref 3, .int x2, .int x3] [] (cd_mm L w I J) = some r := by
  refine cd_q27_70 ?_
  simp only [cd_zwI, cd_zwL, cd_zI, cd_zJ, cd_zcp, true_and, if_true, cd_zk_p0_66_83 hp, cd_zR_p0_66_83_11 hp, cd_zk_3]
  exact h
set_option maxRecDepth 1000000 in
set_option maxHeartbeats 8000000 in
theorem cd_s27_77 {x2 : Int32} {x3 : Int32} {s1 : Int32} {s2 : Int32} {p : Nat} (hp : p = 66 ∨ p = 83) {L : Nat} {w : Bool} {I : Nat → Nat → Int32} {J : Nat → Nat → Int64} {r : cd_Ret} (h : (if cd_in s1 3 = true then ((cd_ci (cd_c 23 [.ref 3, .int 1, .int 9] (cd_mm L w (cd_up I (p + 8) s1.toNatClampNeg s2) J))).bind fun q => cd_go 27 85 [.ref p, .ref 3, .int x2, .int x3] [.int q.1, .int x3, .ref (p + 9)] q.2) else none) = some r) : cd_go 27 77 [.ref p, .ref 3, .int x2, .int x3] [.int s2, .int s1, .ref (p + 8)] (cd_mm L w I J) = some r := by
  refine cd_q27_77 ?_
  simp only [cd_zwI, cd_zwL, cd_zI, cd_zJ, cd_zcp, true_and, if_true, cd_zk_p8_66_83 hp, cd_zn_p8_66_83 hp, cd_zk_p0_66_83 hp, cd_zR_p0_66_83_12 hp, cd_zk_3]
  exact h
set_option maxRecDepth 1000000 in
set_option maxHeartbeats 8000000 in
theorem cd_s27_85 {x2 : Int32} {x3 : Int32} {s1 : Int32} {s2 : Int32} {p : Nat} (hp : p = 66 ∨ p = 83) {L : Nat} {w : Bool} {I : Nat → Nat → Int32} {J : Nat → Nat → Int64} {r : cd_Ret} (h : (if cd_in s1 3 = true then (some (none, (cd_mm L w (cd_up (cd_up I (p + 9) s1.toNatClampNeg s2) p 1 (((cd_up I (p + 9) s1.toNatClampNeg s2) p 1) + 1)) J))) else none) = some r) : cd_go 27 85 [.ref p, .ref 3, .int x2, .int x3] [.int s2, .int s1, .ref (p + 9)] (cd_mm L w I J) = some r := by
  refine cd_q27_85 ?_
  simp only [cd_zwI, cd_zwL, cd_zI, cd_zJ, cd_zcp, true_and, if_true, cd_zk_p9_66_83 hp, cd_zn_p9_66_83 hp, cd_zk_p0_66_83 hp]
  exact h
set_option maxRecDepth 1000000 in
set_option maxHeartbeats 8000000 in
theorem cd_s28_0 {x1 : Int32} {x2 : Int32} {p : Nat} (hp : p = 66 ∨ p = 83) {L : Nat} {w : Bool} {I : Nat → Nat → Int32} {J : Nat → Nat → Int64} {r : cd_Ret} (h : (cd_go 28 2 [.ref p, .int x1, .int x2, .int 0] [] (cd_mm L w I J)) = some r) : cd_go 28 0 [.ref p, .int x1, .int x2, .null] [] (cd_mm L w I J) = some r := cd_q28_0 h
set_option maxRecDepth 1000000 in
set_option maxHeartbeats 8000000 in
theorem cd_s28_2 {x1 : Int32} {x2 : Int32} {x3 : Int32} {p : Nat} (hp : p = 66 ∨ p = 83) {L : Nat} {w : Bool} {I : Nat → Nat → Int32} {J : Nat → Nat → Int64} {r : cd_Ret} (h : (if x3 < (I p 2) then (if cd_in x3 12 = true then (if (I (p + 11) x3.toNatClampNeg) = x1 then (if cd_in x3 12 = true then (if (I (p + 12) x3.toNatClampNeg) = x2 then (some (some (.int 1), (cd_mm L w I J))) else cd_go 28 2 [.ref p, .int x1, .int x2, .int (x3 + 1)] [] (cd_mm L w I J)) else none) else cd_go 28 2 [.ref p, .int x1, .int x2, .int (x3 + 1)] [] (cd_mm L w I J)) else none) else some (some (.int 0), (cd_mm L w I J))) = some r) : cd_go 28 2 [.ref p, .int x1, .int x2, .int x3] [] (cd_mm L w I J) = some r := by
  refine cd_q28_2 ?_
  simp only [cd_zwI, cd_zwL, cd_zI, cd_zJ, cd_zcp, true_and, if_true, cd_zk_p0_66_83 hp, cd_zR_p0_66_83_14 hp, cd_zk_p11_66_83 hp, cd_zn_p11_66_83 hp, cd_zR_p0_66_83_15 hp, cd_zk_p12_66_83 hp, cd_zn_p12_66_83 hp]
  exact h
set_option maxRecDepth 1000000 in
set_option maxHeartbeats 8000000 in
theorem cd_s29_0 {x1 : Int32} {x2 : Int32} {p : Nat} (hp : p = 66 ∨ p = 83) {L : Nat} {w : Bool} {I : Nat → Nat → Int32} {J : Nat → Nat → Int64} {r : cd_Ret} (h : (if cd_in x1 3 = true then (if (lg_cmp ((((J (p + 10) x1.toNatClampNeg).toUInt64 >>> (x2.toInt64.toUInt64 &&& Int64.toUInt64 63)).toInt64) &&& 1) 0) = 0 then (some (some (.int 0), (cd_mm L w I J))) else some (some (.int 1), (cd_mm L w I J))) else none) = some r) : cd_go 29 0 [.ref p, .int x1, .int x2] [] (cd_mm L w I J) = some r := by
  refine cd_q29_0 ?_
  simp only [cd_zwI, cd_zwL, cd_zI, cd_zJ, cd_zcp, true_and, if_true, cd_zk_p0_66_83 hp, cd_zR_p0_66_83_13 hp, cd_zk_p10_66_83 hp, cd_zn_p10_66_83 hp]
  exact h
set_option maxRecDepth 1000000 in
set_option maxHeartbeats 8000000 in
theorem cd_s30_0 {x2 : Int32} {p : Nat} (hp : p = 66 ∨ p = 83) {s : Nat} (hs : s = 22 ∨ s = 45 ∨ s = 79 ∨ s = 96) {L : Nat} {w : Bool} {I : Nat → Nat → Int32} {J : Nat → Nat → Int64} {r : cd_Ret} (h : (if cd_in x2 12 = true then (if cd_in x2 12 = true then (if cd_in (I (p + 12) x2.toNatClampNeg) 8 = true then ((cd_ci (cd_c 29 [.ref p, .int (I (p + 11) x2.toNatClampNeg), .int (I (s + 1) (I (p + 12) x2.toNatClampNeg).toNatClampNeg)] (cd_mm L w I J))).bind fun q => cd_go 30 13 [.ref p, .ref s, .int x2] [.int q.1] q.2) else none) else none) else none) = some r) : cd_go 30 0 [.ref p, .ref s, .int x2] [] (cd_mm L w I J) = some r := by
  refine cd_q30_0 ?_
  simp only [cd_zwI, cd_zwL, cd_zI, cd_zJ, cd_zcp, true_and, if_true, cd_zk_p0_66_83 hp, cd_zR_p0_66_83_14 hp, cd_zk_p11_66_83 hp, cd_zn_p11_66_83 hp, cd_zk_s0_22_45_79_96 hs, cd_zR_s0_22_45_79_96_0 hs, cd_zR_p0_66_83_15 hp, cd_zk_p12_66_83 hp, cd_zn_p12_66_83 hp, cd_zk_s1_22_45_79_96 hs, cd_zn_s1_22_45_79_96 hs]
  exact h
set_option maxRecDepth 1000000 in
set_option maxHeartbeats 8000000 in
theorem cd_s30_13 {x2 : Int32} {s0 : Int32} {p : Nat} (hp : p = 66 ∨ p = 83) {s : Nat} (hs : s = 22 ∨ s = 45 ∨ s = 79 ∨ s = 96) {L : Nat} {w : Bool} {I : Nat → Nat → Int32} {J : Nat → Nat → Int64} {r : cd_Ret} (h : (if s0 &&& 1 = s0 then some (some (.int s0), (cd_mm L w I J)) else none) = some r) : cd_go 30 13 [.ref p, .ref s, .int x2] [.int s0] (cd_mm L w I J) = some r := cd_q30_13 h
set_option maxRecDepth 1000000 in
set_option maxHeartbeats 8000000 in
theorem cd_s31_0 {L : Nat} {w : Bool} {I : Nat → Nat → Int32} {J : Nat → Nat → Int64} {r : cd_Ret} (h : ((cd_ci (cd_c 21 [.ref 3, .ref 1003] (cd_mm L w I J))).bind fun q => cd_go 31 3 [.ref 3] [.int q.1] q.2) = some r) : cd_go 31 0 [.ref 3] [] (cd_mm L w I J) = some r := by
  refine cd_q31_0 ?_
  simp only [cd_zwI, cd_zwL, cd_zI, cd_zJ, cd_zcp, true_and, if_true, cd_zk_3]
  exact h
set_option maxRecDepth 1000000 in
set_option maxHeartbeats 8000000 in
theorem cd_s31_3 {s0 : Int32} {L : Nat} {w : Bool} {I : Nat → Nat → Int32} {J : Nat → Nat → Int64} {r : cd_Ret} (h : (if s0 = 0 then ((cd_ci (cd_c 21 [.ref 3, .ref 1004] (cd_mm L w I J))).bind fun q => cd_go 31 9 [.ref 3] [.int q.1] q.2) else some (some (.int 0), (cd_mm L w I J))) = some r) : cd_go 31 3 [.ref 3] [.int s0] (cd_mm L w I J) = some r := by
  refine cd_q31_3 ?_
  simp only [cd_zwI, cd_zwL, cd_zI, cd_zJ, cd_zcp, true_and, if_true, cd_zk_3]
  exact h
set_option maxRecDepth 1000000 in
set_option maxHeartbeats 8000000 in
theorem cd_s31_9 {s0 : Int32} {L : Nat} {w : Bool} {I : Nat → Nat → Int32} {J : Nat → Nat → Int64} {r : cd_Ret} (h : (if s0 = 0 then ((cd_ci (cd_c 21 [.ref 3, .ref 1005] (cd_mm L w I J))).bind fun q => cd_go 31 15 [.ref 3] [.int q.1] q.2) else some (some (.int 1), (cd_mm L w I J))) = some r) : cd_go 31 9 [.ref 3] [.int s0] (cd_mm L w I J) = some r := by
  refine cd_q31_9 ?_
  simp only [cd_zwI, cd_zwL, cd_zI, cd_zJ, cd_zcp, true_and, if_true, cd_zk_3]
  exact h
set_option maxRecDepth 1000000 in
set_option maxHeartbeats 8000000 in
theorem cd_s31_15 {s0 : Int32} {L : Nat} {w : Bool} {I : Nat → Nat → Int32} {J : Nat → Nat → Int64} {r : cd_Ret} (h : (if s0 = 0 then ((cd_ci (cd_c 21 [.ref 3, .ref 1006] (cd_mm L w I J))).bind fun q => cd_go 31 21 [.ref 3] [.int q.1] q.2) else some (some (.int 2), (cd_mm L w I J))) = some r) : cd_go 31 15 [.ref 3] [.int s0] (cd_mm L w I J) = some r := by
  refine cd_q31_15 ?_
  simp only [cd_zwI, cd_zwL, cd_zI, cd_zJ, cd_zcp, true_and, if_true, cd_zk_3]
  exact h
set_option maxRecDepth 1000000 in
set_option maxHeartbeats 8000000 in
theorem cd_s31_21 {s0 : Int32} {L : Nat} {w : Bool} {I : Nat → Nat → Int32} {J : Nat → Nat → Int64} {r : cd_Ret} (h : (if s0 = 0 then ((cd_ci (cd_c 21 [.ref 3, .ref 1007] (cd_mm L w I J))).bind fun q => cd_go 31 27 [.ref 3] [.int q.1] q.2) else some (some (.int 3), (cd_mm L w I J))) = some r) : cd_go 31 21 [.ref 3] [.int s0] (cd_mm L w I J) = some r := by
  refine cd_q31_21 ?_
  simp only [cd_zwI, cd_zwL, cd_zI, cd_zJ, cd_zcp, true_and, if_true, cd_zk_3]
  exact h
set_option maxRecDepth 1000000 in
set_option maxHeartbeats 8000000 in
theorem cd_s31_27 {s0 : Int32} {L : Nat} {w : Bool} {I : Nat → Nat → Int32} {J : Nat → Nat → Int64} {r : cd_Ret} (h : (if s0 = 0 then ((cd_cv (cd_c 22 [.ref 3, .int 1, .int (I 3 4)] (cd_mm L w I J))).bind fun m => cd_go 31 33 [.ref 3] [] m) else cd_go 31 33 [.ref 3] [] (cd_mm L w I J)) = some r) : cd_go 31 27 [.ref 3] [.int s0] (cd_mm L w I J) = some r := by
  refine cd_q31_27 ?_
  simp only [cd_zwI, cd_zwL, cd_zI, cd_zJ, cd_zcp, true_and, if_true, cd_zk_3]
  exact h
set_option maxRecDepth 1000000 in
set_option maxHeartbeats 8000000 in
theorem cd_s31_33 {L : Nat} {w : Bool} {I : Nat → Nat → Int32} {J : Nat → Nat → Int64} {r : cd_Ret} (h : (some (some (.int 4), (cd_mm L w I J))) = some r) : cd_go 31 33 [.ref 3] [] (cd_mm L w I J) = some r := cd_q31_33 h
set_option maxRecDepth 1000000 in
set_option maxHeartbeats 8000000 in
theorem cd_s32_0 {x1 : Int32} {x2 : Int32} {x3 : Int32} {s : Nat} (hs : s = 22 ∨ s = 79 ∨ s = 96) {L : Nat} {w : Bool} {I : Nat → Nat → Int32} {J : Nat → Nat → Int64} {r : cd_Ret} (h : (if cd_in x1 12 = true then (if cd_in x1 12 = true then (some (none, (cd_mm L w (cd_up (cd_up I (s + 2) x1.toNatClampNeg x2) (s + 3) x1.toNatClampNeg x3) J))) else none) else none) = some r) : cd_go 32 0 [.ref s, .int x1, .int x2, .int x3] [] (cd_mm L w I J) = some r := by
  refine cd_q32_0 ?_
  simp only [cd_zwI, cd_zwL, cd_zI, cd_zJ, cd_zcp, true_and, if_true, cd_zk_s0_22_79_96 hs, cd_zR_s0_22_79_96_3 hs, cd_zk_s2_22_79_96 hs, cd_zn_s2_22_79_96 hs, cd_zR_s0_22_79_96_4 hs, cd_zk_s3_22_79_96 hs, cd_zn_s3_22_79_96 hs]
  exact h
set_option maxRecDepth 1000000 in
set_option maxHeartbeats 8000000 in
theorem cd_s33_0 {x2 : Int32} {p : Nat} (hp : p = 66 ∨ p = 83) {L : Nat} {w : Bool} {I : Nat → Nat → Int32} {J : Nat → Nat → Int64} {r : cd_Ret} (h : (if (I p 2) < 12 then ((cd_ci (cd_c 23 [.ref 3, .int 0, .int ((I p 1) - 1)] (cd_mm L w I J))).bind fun q => cd_go 33 18 [.ref p, .ref 3, .int x2, .int (I p 2), .null, .null, .null] [.int q.1] q.2) else (cd_cv (cd_c 22 [.ref 3, .int 4, .int x2] (cd_mm L w I J))).bind fun m => cd_go 33 10 [.ref p, .ref 3, .int x2, .int (I p 2), .null, .null, .null] [] m) = some r) : cd_go 33 0 [.ref p, .ref 3, .int x2, .null, .null, .null, .null] [] (cd_mm L w I J) = some r := by
  refine cd_q33_0 ?_
  simp only [cd_zwI, cd_zwL, cd_zI, cd_zJ, cd_zcp, true_and, if_true, cd_zk_p0_66_83 hp, cd_zk_3]
  exact h
set_option maxRecDepth 1000000 in
set_option maxHeartbeats 8000000 in
theorem cd_s33_10 {x2 : Int32} {x3 : Int32} {p : Nat} (hp : p = 66 ∨ p = 83) {L : Nat} {w : Bool} {I : Nat → Nat → Int32} {J : Nat → Nat → Int64} {r : cd_Ret} (h : (some (none, (cd_mm L w I J))) = some r) : cd_go 33 10 [.ref p, .ref 3, .int x2, .int x3, .null, .null, .null] [] (cd_mm L w I J) = some r := cd_q33_10 h
set_option maxRecDepth 1000000 in
set_option maxHeartbeats 8000000 in
theorem cd_s33_18 {x2 : Int32} {x3 : Int32} {s0 : Int32} {p : Nat} (hp : p = 66 ∨ p = 83) {L : Nat} {w : Bool} {I : Nat → Nat → Int32} {J : Nat → Nat → Int64} {r : cd_Ret} (h : ((cd_ci (cd_c 23 [.ref 3, .int 0, .int ((I p 0) - 1)] (cd_mm L w I J))).bind fun q => cd_go 33 26 [.ref p, .ref 3, .int x2, .int x3, .int s0, .null, .null] [.int q.1] q.2) = some r) : cd_go 33 18 [.ref p, .ref 3, .int x2, .int x3, .null, .null, .null] [.int s0] (cd_mm L w I J) = some r := by
  refine cd_q33_18 ?_
  simp only [cd_zwI, cd_zwL, cd_zI, cd_zJ, cd_zcp, true_and, if_true, cd_zk_p0_66_83 hp, cd_zk_3]
  exact h
set_option maxRecDepth 1000000 in
set_option maxHeartbeats 8000000 in
theorem cd_s33_26 {x2 : Int32} {x3 : Int32} {x4 : Int32} {s0 : Int32} {p : Nat} (hp : p = 66 ∨ p = 83) {L : Nat} {w : Bool} {I : Nat → Nat → Int32} {J : Nat → Nat → Int64} {r : cd_Ret} (h : (if (I 3 7) = 0 then (if cd_in x3 12 = true then (if cd_in x3 12 = true then (if (((((cd_up (cd_up I (p + 11) x3.toNatClampNeg x4) (p + 12) x3.toNatClampNeg s0) p 3).toUInt32 >>> (s0.toUInt32 &&& Int32.toUInt32 31)).toInt32) &&& 1) = 0 then ((cd_ci (cd_c 28 [.ref p, .int x4, .int s0] (cd_mm L w (cd_up (cd_up I (p + 11) x3.toNatClampNeg x4) (p + 12) x3.toNatClampNeg s0) J))).bind fun q => cd_go 33 52 [.ref p, .ref 3, .int x2, .int x3, .int x4, .int s0, .null] [.int q.1] q.2) else (cd_cv (cd_c 22 [.ref 3, .int 3, .int ((cd_up (cd_up I (p + 11) x3.toNatClampNeg x4) (p + 12) x3.toNatClampNeg s0) 3 6)] (cd_mm L w (cd_up (cd_up I (p + 11) x3.toNatClampNeg x4) (p + 12) x3.toNatClampNeg s0) J))).bind fun m => cd_go 33 64 [.ref p, .ref 3, .int x2, .int x3, .int x4, .int s0, .null] [] m) else none) else none) else some (none, (cd_mm L w I J))) = some r) : cd_go 33 26 [.ref p, .ref 3, .int x2, .int x3, .int x4, .null, .null] [.int s0] (cd_mm L w I J) = some r := by
  refine cd_q33_26 ?_
  simp only [cd_zwI, cd_zwL, cd_zI, cd_zJ, cd_zcp, true_and, if_true, cd_zk_3, cd_zk_p0_66_83 hp, cd_zR_p0_66_83_14 hp, cd_zk_p11_66_83 hp, cd_zn_p11_66_83 hp, cd_zR_p0_66_83_15 hp, cd_zk_p12_66_83 hp, cd_zn_p12_66_83 hp]
  exact h
set_option maxRecDepth 1000000 in
set_option maxHeartbeats 8000000 in
theorem cd_s33_52 {x2 : Int32} {x3 : Int32} {x4 : Int32} {x5 : Int32} {s0 : Int32} {p : Nat} (hp : p = 66 ∨ p = 83) {L : Nat} {w : Bool} {I : Nat → Nat → Int32} {J : Nat → Nat → Int64} {r : cd_Ret} (h : (if s0 = 0 then ((cd_ci (cd_c 30 [.ref p, .ref (p + 13), .int x3] (cd_mm L w I J))).bind fun q => cd_go 33 58 [.ref p, .ref 3, .int x2, .int x3, .int x4, .int x5, .null] [.int q.1] q.2) else (cd_cv (cd_c 22 [.ref 3, .int 3, .int (I 3 6)] (cd_mm L w I J))).bind fun m => cd_go 33 64 [.ref p, .ref 3, .int x2, .int x3, .int x4, .int x5, .null] [] m) = some r) : cd_go 33 52 [.ref p, .ref 3, .int x2, .int x3, .int x4, .int x5, .null] [.int s0] (cd_mm L w I J) = some r := by
  refine cd_q33_52 ?_
  simp only [cd_zwI, cd_zwL, cd_zI, cd_zJ, cd_zcp, true_and, if_true, cd_zk_p0_66_83 hp, cd_zR_p0_66_83_19 hp, cd_zk_3]
  exact h
set_option maxRecDepth 1000000 in
set_option maxHeartbeats 8000000 in
theorem cd_s33_58 {x2 : Int32} {x3 : Int32} {x4 : Int32} {x5 : Int32} {s0 : Int32} {p : Nat} (hp : p = 66 ∨ p = 83) {L : Nat} {w : Bool} {I : Nat → Nat → Int32} {J : Nat → Nat → Int64} {r : cd_Ret} (h : (if s0 = 0 then ((cd_cv (cd_c 22 [.ref 3, .int 3, .int (I 3 6)] (cd_mm L w I J))).bind fun m => cd_go 33 64 [.ref p, .ref 3, .int x2, .int x3, .int x4, .int x5, .null] [] m) else (cd_ci (cd_c 31 [.ref 3] (cd_mm L w I J))).bind fun q => cd_go 33 67 [.ref p, .ref 3, .int x2, .int x3, .int x4, .int x5, .null] [.int q.1] q.2) = some r) : cd_go 33 58 [.ref p, .ref 3, .int x2, .int x3, .int x4, .int x5, .null] [.int s0] (cd_mm L w I J) = some r := by
  refine cd_q33_58 ?_
  simp only [cd_zwI, cd_zwL, cd_zI, cd_zJ, cd_zcp, true_and, if_true, cd_zk_3]
  exact h
set_option maxRecDepth 1000000 in
set_option maxHeartbeats 8000000 in
theorem cd_s33_64 {x2 : Int32} {x3 : Int32} {x4 : Int32} {x5 : Int32} {p : Nat} (hp : p = 66 ∨ p = 83) {L : Nat} {w : Bool} {I : Nat → Nat → Int32} {J : Nat → Nat → Int64} {r : cd_Ret} (h : (some (none, (cd_mm L w I J))) = some r) : cd_go 33 64 [.ref p, .ref 3, .int x2, .int x3, .int x4, .int x5, .null] [] (cd_mm L w I J) = some r := cd_q33_64 h
set_option maxRecDepth 1000000 in
set_option maxHeartbeats 8000000 in
theorem cd_s33_67 {x2 : Int32} {x3 : Int32} {x4 : Int32} {x5 : Int32} {s0 : Int32} {p : Nat} (hp : p = 66 ∨ p = 83) {L : Nat} {w : Bool} {I : Nat → Nat → Int32} {J : Nat → Nat → Int64} {r : cd_Ret} (h : (if s0 = 2 then ((cd_ci (cd_c 23 [.ref 3, .int 1, .int 99] (cd_mm L w I J))).bind fun q => cd_go 33 79 [.ref p, .ref 3, .int x2, .int x3, .int x4, .int x5, .int s0] [.int q.1, .int s0, .int x3, .ref (p + 13)] q.2) else (cd_cv (cd_c 32 [.ref (p + 13), .int x3, .int s0, .int 0] (cd_mm L w I J))).bind fun m => cd_go 33 82 [.ref p, .ref 3, .int x2, .int x3, .int x4, .int x5, .int s0] [] m) = some r) : cd_go 33 67 [.ref p, .ref 3, .int x2, .int x3, .int x4, .int x5, .null] [.int s0] (cd_mm L w I J) = some r := by
  refine cd_q33_67 ?_
  simp only [cd_zwI, cd_zwL, cd_zI, cd_zJ, cd_zcp, true_and, if_true, cd_zk_p0_66_83 hp, cd_zR_p0_66_83_19 hp, cd_zk_3, cd_zk_p13_66_83 hp]
  exact h
set_option maxRecDepth 1000000 in
set_option maxHeartbeats 8000000 in
theorem cd_s33_79 {x2 : Int32} {x3 : Int32} {x4 : Int32} {x5 : Int32} {x6 : Int32} {s1 : Int32} {s2 : Int32} {s3 : Int32} {p : Nat} (hp : p = 66 ∨ p = 83) {L : Nat} {w : Bool} {I : Nat → Nat → Int32} {J : Nat → Nat → Int64} {r : cd_Ret} (h : ((cd_cv (cd_c 32 [.ref (p + 13), .int s1, .int s2, .int s3] (cd_mm L w I J))).bind fun m => cd_go 33 82 [.ref p, .ref 3, .int x2, .int x3, .int x4, .int x5, .int x6] [] m) = some r) : cd_go 33 79 [.ref p, .ref 3, .int x2, .int x3, .int x4, .int x5, .int x6] [.int s3, .int s2, .int s1, .ref (p + 13)] (cd_mm L w I J) = some r := by
  refine cd_q33_79 ?_
  simp only [cd_zwI, cd_zwL, cd_zI, cd_zJ, cd_zcp, true_and, if_true, cd_zk_p13_66_83 hp]
  exact h
set_option maxRecDepth 1000000 in
set_option maxHeartbeats 8000000 in
theorem cd_s33_82 {x2 : Int32} {x3 : Int32} {x4 : Int32} {x5 : Int32} {x6 : Int32} {p : Nat} (hp : p = 66 ∨ p = 83) {L : Nat} {w : Bool} {I : Nat → Nat → Int32} {J : Nat → Nat → Int64} {r : cd_Ret} (h : (some (none, (cd_mm L w (cd_up (cd_up I (p + 13) 2 ((I (p + 13) 2) ||| ((1 : Int32) <<< (x3 &&& 31)))) p 2 (((cd_up I (p + 13) 2 ((I (p + 13) 2) ||| ((1 : Int32) <<< (x3 &&& 31)))) p 2) + 1)) J))) = some r) : cd_go 33 82 [.ref p, .ref 3, .int x2, .int x3, .int x4, .int x5, .int x6] [] (cd_mm L w I J) = some r := by
  refine cd_q33_82 ?_
  simp only [cd_zwI, cd_zwL, cd_zI, cd_zJ, cd_zcp, true_and, if_true, cd_zk_p0_66_83 hp, cd_zR_p0_66_83_19 hp, cd_zk_p13_66_83 hp]
  exact h
set_option maxRecDepth 1000000 in
set_option maxHeartbeats 8000000 in
theorem cd_s34_0 {x2 : Int32} {p : Nat} (hp : p = 66 ∨ p = 83) {L : Nat} {w : Bool} {I : Nat → Nat → Int32} {J : Nat → Nat → Int64} {r : cd_Ret} (h : (if (I p 18) = 0 then (cd_go 34 7 [.ref p, .ref 3, .int x2] [] (cd_mm L w I J)) else (cd_cv (cd_c 22 [.ref 3, .int 3, .int x2] (cd_mm L w I J))).bind fun m => cd_go 34 7 [.ref p, .ref 3, .int x2] [] m) = some r) : cd_go 34 0 [.ref p, .ref 3, .int x2] [] (cd_mm L w I J) = some r := by
  refine cd_q34_0 ?_
  simp only [cd_zwI, cd_zwL, cd_zI, cd_zJ, cd_zcp, true_and, if_true, cd_zk_p0_66_83 hp, cd_zk_3]
  exact h
set_option maxRecDepth 1000000 in
set_option maxHeartbeats 8000000 in
theorem cd_s34_7 {x2 : Int32} {p : Nat} (hp : p = 66 ∨ p = 83) {L : Nat} {w : Bool} {I : Nat → Nat → Int32} {J : Nat → Nat → Int64} {r : cd_Ret} (h : ((cd_ci (cd_c 23 [.ref 3, .int 0, .int 99] (cd_mm L w (cd_up I p 18 1) J))).bind fun q => cd_go 34 15 [.ref p, .ref 3, .int x2] [.int q.1, .ref p] q.2) = some r) : cd_go 34 7 [.ref p, .ref 3, .int x2] [] (cd_mm L w I J) = some r := by
  refine cd_q34_7 ?_
  simp only [cd_zwI, cd_zwL, cd_zI, cd_zJ, cd_zcp, true_and, if_true, cd_zk_p0_66_83 hp, cd_zk_3]
  exact h
set_option maxRecDepth 1000000 in
set_option maxHeartbeats 8000000 in
theorem cd_s34_15 {x2 : Int32} {s1 : Int32} {p : Nat} (hp : p = 66 ∨ p = 83) {L : Nat} {w : Bool} {I : Nat → Nat → Int32} {J : Nat → Nat → Int64} {r : cd_Ret} (h : ((cd_ci (cd_c 23 [.ref 3, .int 1, .int 20] (cd_mm L w (cd_up I p 16 s1) J))).bind fun q => cd_go 34 21 [.ref p, .ref 3, .int x2] [.int q.1, .ref p] q.2) = some r) : cd_go 34 15 [.ref p, .ref 3, .int x2] [.int s1, .ref p] (cd_mm L w I J) = some r := by
  refine cd_q34_15 ?_
  simp only [cd_zwI, cd_zwL, cd_zI, cd_zJ, cd_zcp, true_and, if_true, cd_zk_p0_66_83 hp, cd_zk_3]
  exact h
set_option maxRecDepth 1000000 in
set_option maxHeartbeats 8000000 in
theorem cd_s34_21 {x2 : Int32} {s1 : Int32} {p : Nat} (hp : p = 66 ∨ p = 83) {L : Nat} {w : Bool} {I : Nat → Nat → Int32} {J : Nat → Nat → Int64} {r : cd_Ret} (h : (some (none, (cd_mm L w (cd_up I p 17 s1) J))) = some r) : cd_go 34 21 [.ref p, .ref 3, .int x2] [.int s1, .ref p] (cd_mm L w I J) = some r := by
  refine cd_q34_21 ?_
  simp only [cd_zwI, cd_zwL, cd_zI, cd_zJ, cd_zcp, true_and, if_true, cd_zk_p0_66_83 hp]
  exact h
set_option maxRecDepth 1000000 in
set_option maxHeartbeats 8000000 in
theorem cd_s35_0 {x1 : Int32} {p : Nat} (hp : p = 66 ∨ p = 83) {L : Nat} {w : Bool} {I : Nat → Nat → Int32} {J : Nat → Nat → Int64} {r : cd_Ret} (h : (cd_go 35 2 [.ref p, .int x1, .int 0] [] (cd_mm L w I J)) = some r) : cd_go 35 0 [.ref p, .int x1, .null] [] (cd_mm L w I J) = some r := cd_q35_0 h
set_option maxRecDepth 1000000 in
set_option maxHeartbeats 8000000 in
theorem cd_s35_2 {x1 : Int32} {x2 : Int32} {p : Nat} (hp : p = 66 ∨ p = 83) {L : Nat} {w : Bool} {I : Nat → Nat → Int32} {J : Nat → Nat → Int64} {r : cd_Ret} (h : (if x2 < (I p 2) then (if cd_in x2 12 = true then (if (I (p + 12) x2.toNatClampNeg) = x1 then (some (some (.int 1), (cd_mm L w I J))) else cd_go 35 2 [.ref p, .int x1, .int (x2 + 1)] [] (cd_mm L w I J)) else none) else some (some (.int 0), (cd_mm L w I J))) = some r) : cd_go 35 2 [.ref p, .int x1, .int x2] [] (cd_mm L w I J) = some r := by
  refine cd_q35_2 ?_
  simp only [cd_zwI, cd_zwL, cd_zI, cd_zJ, cd_zcp, true_and, if_true, cd_zk_p0_66_83 hp, cd_zR_p0_66_83_15 hp, cd_zk_p12_66_83 hp, cd_zn_p12_66_83 hp]
  exact h
set_option maxRecDepth 1000000 in
set_option maxHeartbeats 8000000 in
theorem cd_s36_0 {p : Nat} (hp : p = 66 ∨ p = 83) {L : Nat} {w : Bool} {I : Nat → Nat → Int32} {J : Nat → Nat → Int64} {r : cd_Ret} (h : ((cd_ci (cd_c 23 [.ref 3, .int 0, .int ((I p 0) - 1)] (cd_mm L w I J))).bind fun q => cd_go 36 7 [.ref p, .ref 3, .null] [.int q.1] q.2) = some r) : cd_go 36 0 [.ref p, .ref 3, .null] [] (cd_mm L w I J) = some r := by
  refine cd_q36_0 ?_
  simp only [cd_zwI, cd_zwL, cd_zI, cd_zJ, cd_zcp, true_and, if_true, cd_zk_p0_66_83 hp, cd_zk_3]
  exact h
set_option maxRecDepth 1000000 in
set_option maxHeartbeats 8000000 in
theorem cd_s36_7 {s0 : Int32} {p : Nat} (hp : p = 66 ∨ p = 83) {L : Nat} {w : Bool} {I : Nat → Nat → Int32} {J : Nat → Nat → Int64} {r : cd_Ret} (h : (if (I 3 7) = 0 then ((cd_ci (cd_c 35 [.ref p, .int s0] (cd_mm L w I J))).bind fun q => cd_go 36 14 [.ref p, .ref 3, .int s0] [.int q.1] q.2) else cd_go 36 20 [.ref p, .ref 3, .int s0] [] (cd_mm L w I J)) = some r) : cd_go 36 7 [.ref p, .ref 3, .null] [.int s0] (cd_mm L w I J) = some r := by
  refine cd_q36_7 ?_
  simp only [cd_zwI, cd_zwL, cd_zI, cd_zJ, cd_zcp, true_and, if_true, cd_zk_3, cd_zk_p0_66_83 hp]
  exact h
set_option maxRecDepth 1000000 in
set_option maxHeartbeats 8000000 in
theorem cd_s36_14 {x2 : Int32} {s0 : Int32} {p : Nat} (hp : p = 66 ∨ p = 83) {L : Nat} {w : Bool} {I : Nat → Nat → Int32} {J : Nat → Nat → Int64} {r : cd_Ret} (h : (if s0 = 0 then (cd_go 36 20 [.ref p, .ref 3, .int x2] [] (cd_mm L w I J)) else (cd_cv (cd_c 22 [.ref 3, .int 3, .int (I 3 6)] (cd_mm L w I J))).bind fun m => cd_go 36 20 [.ref p, .ref 3, .int x2] [] m) = some r) : cd_go 36 14 [.ref p, .ref 3, .int x2] [.int s0] (cd_mm L w I J) = some r := by
  refine cd_q36_14 ?_
  simp only [cd_zwI, cd_zwL, cd_zI, cd_zJ, cd_zcp, true_and, if_true, cd_zk_3]
  exact h
set_option maxRecDepth 1000000 in
set_option maxHeartbeats 8000000 in
theorem cd_s36_20 {x2 : Int32} {p : Nat} (hp : p = 66 ∨ p = 83) {L : Nat} {w : Bool} {I : Nat → Nat → Int32} {J : Nat → Nat → Int64} {r : cd_Ret} (h : (some (none, (cd_mm L w (cd_up I p 3 ((I p 3) ||| ((1 : Int32) <<< (x2 &&& 31)))) J))) = some r) : cd_go 36 20 [.ref p, .ref 3, .int x2] [] (cd_mm L w I J) = some r := by
  refine cd_q36_20 ?_
  simp only [cd_zwI, cd_zwL, cd_zI, cd_zJ, cd_zcp, true_and, if_true, cd_zk_p0_66_83 hp]
  exact h
set_option maxRecDepth 1000000 in
set_option maxHeartbeats 8000000 in
theorem cd_s37_0 {L : Nat} {w : Bool} {I : Nat → Nat → Int32} {J : Nat → Nat → Int64} {r : cd_Ret} (h : (if (I 3 7) = 0 then (if (I 3 3) = 3 then (if cd_in (I 3 4) 500 = true then (if (I 4 (I 3 4).toNatClampNeg) = 59 then ((cd_cv (cd_c 16 [.ref 3] (cd_mm L w I J))).bind fun m => cd_go 37 23 [.ref 3] [] m) else (cd_cv (cd_c 22 [.ref 3, .int 1, .int (I 3 4)] (cd_mm L w I J))).bind fun m => cd_go 37 20 [.ref 3] [] m) else none) else (cd_cv (cd_c 22 [.ref 3, .int 1, .int (I 3 4)] (cd_mm L w I J))).bind fun m => cd_go 37 20 [.ref 3] [] m) else some (none, (cd_mm L w I J))) = some r) : cd_go 37 0 [.ref 3] [] (cd_mm L w I J) = some r := by
  refine cd_q37_0 ?_
  simp only [cd_zwI, cd_zwL, cd_zI, cd_zJ, cd_zcp, true_and, if_true, cd_zk_3, cd_zR_3_0, cd_zk_4, cd_zn_4]
  exact h
set_option maxRecDepth 1000000 in
set_option maxHeartbeats 8000000 in
theorem cd_s37_20 {L : Nat} {w : Bool} {I : Nat → Nat → Int32} {J : Nat → Nat → Int64} {r : cd_Ret} (h : (some (none, (cd_mm L w I J))) = some r) : cd_go 37 20 [.ref 3] [] (cd_mm L w I J) = some r := cd_q37_20 h
set_option maxRecDepth 1000000 in
set_option maxHeartbeats 8000000 in
theorem cd_s37_23 {L : Nat} {w : Bool} {I : Nat → Nat → Int32} {J : Nat → Nat → Int64} {r : cd_Ret} (h : (some (none, (cd_mm L w I J))) = some r) : cd_go 37 23 [.ref 3] [] (cd_mm L w I J) = some r := cd_q37_23 h
set_option maxRecDepth 1000000 in
set_option maxHeartbeats 8000000 in
theorem cd_s38_0 {p : Nat} (hp : p = 66 ∨ p = 83) {L : Nat} {w : Bool} {I : Nat → Nat → Int32} {J : Nat → Nat → Int64} {r : cd_Ret} (h : ((cd_cv (cd_c 18 [.ref p] (cd_mm L w I J))).bind fun m => cd_go 38 2 [.ref p, .ref 3, .null, .null] [] m) = some r) : cd_go 38 0 [.ref p, .ref 3, .null, .null] [] (cd_mm L w I J) = some r := by
  refine cd_q38_0 ?_
  simp only [cd_zwI, cd_zwL, cd_zI, cd_zJ, cd_zcp, true_and, if_true, cd_zk_p0_66_83 hp]
  exact h
set_option maxRecDepth 1000000 in
set_option maxHeartbeats 8000000 in
theorem cd_s38_2 {p : Nat} (hp : p = 66 ∨ p = 83) {L : Nat} {w : Bool} {I : Nat → Nat → Int32} {J : Nat → Nat → Int64} {r : cd_Ret} (h : (cd_go 38 4 [.ref p, .ref 3, .int 0, .null] [] (cd_mm L w I J)) = some r) : cd_go 38 2 [.ref p, .ref 3, .null, .null] [] (cd_mm L w I J) = some r := cd_q38_2 h
set_option maxRecDepth 1000000 in
set_option maxHeartbeats 8000000 in
theorem cd_s38_4 {x2 : Int32} {w3 : Value} {p : Nat} (hp : p = 66 ∨ p = 83) {L : Nat} {w : Bool} {I : Nat → Nat → Int32} {J : Nat → Nat → Int64} {r : cd_Ret} (h : (if x2 < 500 then ((cd_ci (cd_c 19 [.ref 3] (cd_mm L w I J))).bind fun q => cd_go 38 9 [.ref p, .ref 3, .int x2, w3] [.int q.1] q.2) else some (none, (cd_mm L w I J))) = some r) : cd_go 38 4 [.ref p, .ref 3, .int x2, w3] [] (cd_mm L w I J) = some r := by
  refine cd_q38_4 ?_
  simp only [cd_zwI, cd_zwL, cd_zI, cd_zJ, cd_zcp, true_and, if_true, cd_zk_3]
  exact h
set_option maxRecDepth 1000000 in
set_option maxHeartbeats 8000000 in
theorem cd_s38_9 {x2 : Int32} {w3 : Value} {s0 : Int32} {p : Nat} (hp : p = 66 ∨ p = 83) {L : Nat} {w : Bool} {I : Nat → Nat → Int32} {J : Nat → Nat → Int64} {r : cd_Ret} (h : (if s0 = 0 then (some (none, (cd_mm L w I J))) else (cd_ci (cd_c 21 [.ref 3, .ref 1000] (cd_mm L w I J))).bind fun q => cd_go 38 16 [.ref p, .ref 3, .int x2, .int (I 3 4)] [.int q.1] q.2) = some r) : cd_go 38 9 [.ref p, .ref 3, .int x2, w3] [.int s0] (cd_mm L w I J) = some r := by
  refine cd_q38_9 ?_
  simp only [cd_zwI, cd_zwL, cd_zI, cd_zJ, cd_zcp, true_and, if_true, cd_zk_3]
  exact h
set_option maxRecDepth 1000000 in
set_option maxHeartbeats 8000000 in
theorem cd_s38_16 {x2 : Int32} {x3 : Int32} {s0 : Int32} {p : Nat} (hp : p = 66 ∨ p = 83) {L : Nat} {w : Bool} {I : Nat → Nat → Int32} {J : Nat → Nat → Int64} {r : cd_Ret} (h : (if s0 = 0 then ((cd_ci (cd_c 21 [.ref 3, .ref 1001] (cd_mm L w I J))).bind fun q => cd_go 38 25 [.ref p, .ref 3, .int x2, .int x3] [.int q.1] q.2) else (cd_cv (cd_c 25 [.ref p, .ref 3, .int x3] (cd_mm L w I J))).bind fun m => cd_go 38 21 [.ref p, .ref 3, .int x2, .int x3] [] m) = some r) : cd_go 38 16 [.ref p, .ref 3, .int x2, .int x3] [.int s0] (cd_mm L w I J) = some r := by
  refine cd_q38_16 ?_
  simp only [cd_zwI, cd_zwL, cd_zI, cd_zJ, cd_zcp, true_and, if_true, cd_zk_3, cd_zk_p0_66_83 hp]
  exact h
set_option maxRecDepth 1000000 in
set_option maxHeartbeats 8000000 in
theorem cd_s38_21 {x2 : Int32} {x3 : Int32} {p : Nat} (hp : p = 66 ∨ p = 83) {L : Nat} {w : Bool} {I : Nat → Nat → Int32} {J : Nat → Nat → Int64} {r : cd_Ret} (h : (cd_go 38 61 [.ref p, .ref 3, .int x2, .int x3] [] (cd_mm L w I J)) = some r) : cd_go 38 21 [.ref p, .ref 3, .int x2, .int x3] [] (cd_mm L w I J) = some r := cd_q38_21 h
set_option maxRecDepth 1000000 in
set_option maxHeartbeats 8000000 in
theorem cd_s38_25 {x2 : Int32} {x3 : Int32} {s0 : Int32} {p : Nat} (hp : p = 66 ∨ p = 83) {L : Nat} {w : Bool} {I : Nat → Nat → Int32} {J : Nat → Nat → Int64} {r : cd_Ret} (h : (if s0 = 0 then ((cd_ci (cd_c 21 [.ref 3, .ref 1002] (cd_mm L w I J))).bind fun q => cd_go 38 34 [.ref p, .ref 3, .int x2, .int x3] [.int q.1] q.2) else (cd_cv (cd_c 27 [.ref p, .ref 3, .int x3] (cd_mm L w I J))).bind fun m => cd_go 38 30 [.ref p, .ref 3, .int x2, .int x3] [] m) = some r) : cd_go 38 25 [.ref p, .ref 3, .int x2, .int x3] [.int s0] (cd_mm L w I J) = some r := by
  refine cd_q38_25 ?_
  simp only [cd_zwI, cd_zwL, cd_zI, cd_zJ, cd_zcp, true_and, if_true, cd_zk_3, cd_zk_p0_66_83 hp]
  exact h
set_option maxRecDepth 1000000 in
set_option maxHeartbeats 8000000 in
theorem cd_s38_30 {x2 : Int32} {x3 : Int32} {p : Nat} (hp : p = 66 ∨ p = 83) {L : Nat} {w : Bool} {I : Nat → Nat → Int32} {J : Nat → Nat → Int64} {r : cd_Ret} (h : (cd_go 38 61 [.ref p, .ref 3, .int x2, .int x3] [] (cd_mm L w I J)) = some r) : cd_go 38 30 [.ref p, .ref 3, .int x2, .int x3] [] (cd_mm L w I J) = some r := cd_q38_30 h
set_option maxRecDepth 1000000 in
set_option maxHeartbeats 8000000 in
theorem cd_s38_34 {x2 : Int32} {x3 : Int32} {s0 : Int32} {p : Nat} (hp : p = 66 ∨ p = 83) {L : Nat} {w : Bool} {I : Nat → Nat → Int32} {J : Nat → Nat → Int64} {r : cd_Ret} (h : (if s0 = 0 then ((cd_ci (cd_c 21 [.ref 3, .ref 1008] (cd_mm L w I J))).bind fun q => cd_go 38 43 [.ref p, .ref 3, .int x2, .int x3] [.int q.1] q.2) else (cd_cv (cd_c 33 [.ref p, .ref 3, .int x3] (cd_mm L w I J))).bind fun m => cd_go 38 39 [.ref p, .ref 3, .int x2, .int x3] [] m) = some r) : cd_go 38 34 [.ref p, .ref 3, .int x2, .int x3] [.int s0] (cd_mm L w I J) = some r := by
  refine cd_q38_34 ?_
  simp only [cd_zwI, cd_zwL, cd_zI, cd_zJ, cd_zcp, true_and, if_true, cd_zk_3, cd_zk_p0_66_83 hp]
  exact h
set_option maxRecDepth 1000000 in
set_option maxHeartbeats 8000000 in
theorem cd_s38_39 {x2 : Int32} {x3 : Int32} {p : Nat} (hp : p = 66 ∨ p = 83) {L : Nat} {w : Bool} {I : Nat → Nat → Int32} {J : Nat → Nat → Int64} {r : cd_Ret} (h : (cd_go 38 61 [.ref p, .ref 3, .int x2, .int x3] [] (cd_mm L w I J)) = some r) : cd_go 38 39 [.ref p, .ref 3, .int x2, .int x3] [] (cd_mm L w I J) = some r := cd_q38_39 h
set_option maxRecDepth 1000000 in
set_option maxHeartbeats 8000000 in
theorem cd_s38_43 {x2 : Int32} {x3 : Int32} {s0 : Int32} {p : Nat} (hp : p = 66 ∨ p = 83) {L : Nat} {w : Bool} {I : Nat → Nat → Int32} {J : Nat → Nat → Int64} {r : cd_Ret} (h : (if s0 = 0 then ((cd_ci (cd_c 21 [.ref 3, .ref 1009] (cd_mm L w I J))).bind fun q => cd_go 38 52 [.ref p, .ref 3, .int x2, .int x3] [.int q.1] q.2) else (cd_cv (cd_c 34 [.ref p, .ref 3, .int x3] (cd_mm L w I J))).bind fun m => cd_go 38 48 [.ref p, .ref 3, .int x2, .int x3] [] m) = some r) : cd_go 38 43 [.ref p, .ref 3, .int x2, .int x3] [.int s0] (cd_mm L w I J) = some r := by
  refine cd_q38_43 ?_
  simp only [cd_zwI, cd_zwL, cd_zI, cd_zJ, cd_zcp, true_and, if_true, cd_zk_3, cd_zk_p0_66_83 hp]
  exact h
set_option maxRecDepth 1000000 in
set_option maxHeartbeats 8000000 in
theorem cd_s38_48 {x2 : Int32} {x3 : Int32} {p : Nat} (hp : p = 66 ∨ p = 83) {L : Nat} {w : Bool} {I : Nat → Nat → Int32} {J : Nat → Nat → Int64} {r : cd_Ret} (h : (cd_go 38 61 [.ref p, .ref 3, .int x2, .int x3] [] (cd_mm L w I J)) = some r) : cd_go 38 48 [.ref p, .ref 3, .int x2, .int x3] [] (cd_mm L w I J) = some r := cd_q38_48 h
set_option maxRecDepth 1000000 in
set_option maxHeartbeats 8000000 in
theorem cd_s38_52 {x2 : Int32} {x3 : Int32} {s0 : Int32} {p : Nat} (hp : p = 66 ∨ p = 83) {L : Nat} {w : Bool} {I : Nat → Nat → Int32} {J : Nat → Nat → Int64} {r : cd_Ret} (h : (if s0 = 0 then ((cd_cv (cd_c 22 [.ref 3, .int 1, .int x3] (cd_mm L w I J))).bind fun m => cd_go 38 61 [.ref p, .ref 3, .int x2, .int x3] [] m) else (cd_cv (cd_c 36 [.ref p, .ref 3] (cd_mm L w I J))).bind fun m => cd_go 38 56 [.ref p, .ref 3, .int x2, .int x3] [] m) = some r) : cd_go 38 52 [.ref p, .ref 3, .int x2, .int x3] [.int s0] (cd_mm L w I J) = some r := by
  refine cd_q38_52 ?_
  simp only [cd_zwI, cd_zwL, cd_zI, cd_zJ, cd_zcp, true_and, if_true, cd_zk_3, cd_zk_p0_66_83 hp]
  exact h
set_option maxRecDepth 1000000 in
set_option maxHeartbeats 8000000 in
theorem cd_s38_56 {x2 : Int32} {x3 : Int32} {p : Nat} (hp : p = 66 ∨ p = 83) {L : Nat} {w : Bool} {I : Nat → Nat → Int32} {J : Nat → Nat → Int64} {r : cd_Ret} (h : (cd_go 38 61 [.ref p, .ref 3, .int x2, .int x3] [] (cd_mm L w I J)) = some r) : cd_go 38 56 [.ref p, .ref 3, .int x2, .int x3] [] (cd_mm L w I J) = some r := cd_q38_56 h
set_option maxRecDepth 1000000 in
set_option maxHeartbeats 8000000 in
theorem cd_s38_61 {x2 : Int32} {x3 : Int32} {p : Nat} (hp : p = 66 ∨ p = 83) {L : Nat} {w : Bool} {I : Nat → Nat → Int32} {J : Nat → Nat → Int64} {r : cd_Ret} (h : ((cd_cv (cd_c 37 [.ref 3] (cd_mm L w I J))).bind fun m => cd_go 38 63 [.ref p, .ref 3, .int x2, .int x3] [] m) = some r) : cd_go 38 61 [.ref p, .ref 3, .int x2, .int x3] [] (cd_mm L w I J) = some r := by
  refine cd_q38_61 ?_
  simp only [cd_zwI, cd_zwL, cd_zI, cd_zJ, cd_zcp, true_and, if_true, cd_zk_3]
  exact h
set_option maxRecDepth 1000000 in
set_option maxHeartbeats 8000000 in
theorem cd_s38_63 {x2 : Int32} {x3 : Int32} {p : Nat} (hp : p = 66 ∨ p = 83) {L : Nat} {w : Bool} {I : Nat → Nat → Int32} {J : Nat → Nat → Int64} {r : cd_Ret} (h : (cd_go 38 4 [.ref p, .ref 3, .int (x2 + 1), .int x3] [] (cd_mm L w I J)) = some r) : cd_go 38 63 [.ref p, .ref 3, .int x2, .int x3] [] (cd_mm L w I J) = some r := cd_q38_63 h
set_option maxRecDepth 1000000 in
set_option maxHeartbeats 8000000 in
theorem cd_s39_0 {s : Nat} (hs : s = 22 ∨ s = 45 ∨ s = 50 ∨ s = 54) {u : Nat} (hu : u = 45 ∨ u = 50 ∨ u = 54 ∨ u = 79 ∨ u = 96) {L : Nat} {w : Bool} {I : Nat → Nat → Int32} {J : Nat → Nat → Int64} {r : cd_Ret} (h : (some (none, (cd_mm L w (cd_up (cd_up (cd_cpI (cd_cpI (cd_cpI I (u + 1) (0 : Int32).toNatClampNeg (s + 1) (0 : Int32).toNatClampNeg (8 : Int32).toNatClampNeg) (u + 2) (0 : Int32).toNatClampNeg (s + 2) (0 : Int32).toNatClampNeg (12 : Int32).toNatClampNeg) (u + 3) (0 : Int32).toNatClampNeg (s + 3) (0 : Int32).toNatClampNeg (12 : Int32).toNatClampNeg) s 1 ((cd_cpI (cd_cpI (cd_cpI I (u + 1) (0 : Int32).toNatClampNeg (s + 1) (0 : Int32).toNatClampNeg (8 : Int32).toNatClampNeg) (u + 2) (0 : Int32).toNatClampNeg (s + 2) (0 : Int32).toNatClampNeg (12 : Int32).toNatClampNeg) (u + 3) (0 : Int32).toNatClampNeg (s + 3) (0 : Int32).toNatClampNeg (12 : Int32).toNatClampNeg) u 1)) s 2 ((cd_up (cd_cpI (cd_cpI (cd_cpI I (u + 1) (0 : Int32).toNatClampNeg (s + 1) (0 : Int32).toNatClampNeg (8 : Int32).toNatClampNeg) (u + 2) (0 : Int32).toNatClampNeg (s + 2) (0 : Int32).toNatClampNeg (12 : Int32).toNatClampNeg) (u + 3) (0 : Int32).toNatClampNeg (s + 3) (0 : Int32).toNatClampNeg (12 : Int32).toNatClampNeg) s 1 ((cd_cpI (cd_cpI (cd_cpI I (u + 1) (0 : Int32).toNatClampNeg (s + 1) (0 : Int32).toNatClampNeg (8 : Int32).toNatClampNeg) (u + 2) (0 : Int32).toNatClampNeg (s + 2) (0 : Int32).toNatClampNeg (12 : Int32).toNatClampNeg) (u + 3) (0 : Int32).toNatClampNeg (s + 3) (0 : Int32).toNatClampNeg (12 : Int32).toNatClampNeg) u 1)) u 2)) J))) = some r) : cd_go 39 0 [.ref s, .ref u] [] (cd_mm L w I J) = some r := by
  refine cd_q39_0 ?_
  simp only [cd_zwI, cd_zwL, cd_zI, cd_zJ, cd_zcp, true_and, if_true, cd_zk_u0_45_50_54_79_96 hu, cd_zR_u0_45_50_54_79_96_0 hu, cd_zk_s0_22_45_50_54 hs, cd_zR_s0_22_45_50_54_0 hs, cd_zk_u1_45_50_54_79_96 hu, cd_zk_s1_22_45_50_54 hs, cd_zn_u1_45_50_54_79_96 hu, cd_zn_s1_22_45_50_54 hs, cd_zR_u0_45_50_54_79_96_3 hu, cd_zR_s0_22_45_50_54_3 hs, cd_zk_u2_45_50_54_79_96 hu, cd_zk_s2_22_45_50_54 hs, cd_zn_u2_45_50_54_79_96 hu, cd_zn_s2_22_45_50_54 hs, cd_zR_u0_45_50_54_79_96_4 hu, cd_zR_s0_22_45_50_54_4 hs, cd_zk_u3_45_50_54_79_96 hu, cd_zk_s3_22_45_50_54 hs, cd_zn_u3_45_50_54_79_96 hu, cd_zn_s3_22_45_50_54 hs]
  exact h
set_option maxRecDepth 1000000 in
set_option maxHeartbeats 8000000 in
theorem cd_s40_0 {L : Nat} {w : Bool} {I : Nat → Nat → Int32} {J : Nat → Nat → Int64} {r : cd_Ret} (h : ((cd_cv (cd_c 2 [.ref 8, .int (-1)] (cd_mm L w I J))).bind fun m => cd_go 40 4 [.ref 6] [] m) = some r) : cd_go 40 0 [.ref 6] [] (cd_mm L w I J) = some r := by
  refine cd_q40_0 ?_
  simp only [cd_zwI, cd_zwL, cd_zI, cd_zJ, cd_zcp, true_and, if_true, cd_zk_6, cd_zR_6_1]
  exact h
set_option maxRecDepth 1000000 in
set_option maxHeartbeats 8000000 in
theorem cd_s40_4 {L : Nat} {w : Bool} {I : Nat → Nat → Int32} {J : Nat → Nat → Int64} {r : cd_Ret} (h : (some (none, (cd_mm L w I J))) = some r) : cd_go 40 4 [.ref 6] [] (cd_mm L w I J) = some r := cd_q40_4 h
set_option maxRecDepth 1000000 in
set_option maxHeartbeats 8000000 in
theorem cd_s41_0 {L : Nat} {w : Bool} {I : Nat → Nat → Int32} {J : Nat → Nat → Int64} {r : cd_Ret} (h : (some (none, (cd_mm L w (cd_up I 21 8 0) J))) = some r) : cd_go 41 0 [.ref 21] [] (cd_mm L w I J) = some r := by
  refine cd_q41_0 ?_
  simp only [cd_zwI, cd_zwL, cd_zI, cd_zJ, cd_zcp, true_and, if_true, cd_zk_21]
  exact h
