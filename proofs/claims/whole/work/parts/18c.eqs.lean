set_option maxRecDepth 1000000 in
set_option maxHeartbeats 8000000 in
theorem cd_s84_0 {x1 : Int32} {x2 : Int32} {L : Nat} {w : Bool} {I : Nat → Nat → Int32} {J : Nat → Nat → Int64} {r : cd_Ret} (h : (if x2 = 0 then (if x1 < 0 then (some (some (.int (-1)), (cd_mm L w I J))) else if x1 < (I 42 2) then (if x2 = 0 then (if cd_in x1 60 = true then (some (some (.int (I 43 x1.toNatClampNeg)), (cd_mm L w I J))) else none) else if cd_in x1 60 = true then (some (some (.int (I 44 x1.toNatClampNeg)), (cd_mm L w I J))) else none) else some (some (.int (-1)), (cd_mm L w I J))) else if x2 = 1 then (if x1 < 0 then (some (some (.int (-1)), (cd_mm L w I J))) else if x1 < (I 42 2) then (if x2 = 0 then (if cd_in x1 60 = true then (some (some (.int (I 43 x1.toNatClampNeg)), (cd_mm L w I J))) else none) else if cd_in x1 60 = true then (some (some (.int (I 44 x1.toNatClampNeg)), (cd_mm L w I J))) else none) else some (some (.int (-1)), (cd_mm L w I J))) else some (some (.int (-1002)), (cd_mm L w I J))) = some r) : cd_go 84 0 [.ref 2, .int x1, .int x2] [] (cd_mm L w I J) = some r := by
  refine cd_q84_0 ?_
  simp only [cd_zwI, cd_zwL, cd_zI, cd_zJ, cd_zcp, true_and, if_true, cd_zk_2, cd_zR_2_5, cd_zk_42, cd_zR_42_0, cd_zk_43, cd_zn_43, cd_zR_42_1, cd_zk_44, cd_zn_44]
  exact h
set_option maxRecDepth 1000000 in
set_option maxHeartbeats 8000000 in
theorem cd_s85_0 {L : Nat} {w : Bool} {I : Nat → Nat → Int32} {J : Nat → Nat → Int64} {r : cd_Ret} (h : ((cd_ci (cd_c 79 [.ref 5, .ref (cd_ple w), .ref 45, .int (-1), .int 0] (cd_mm L w I J))).bind fun q => cd_go 85 9 [.ref 2] [.int q.1] q.2) = some r) : cd_go 85 0 [.ref 2] [] (cd_mm L w I J) = some r := by
  refine cd_q85_0 ?_
  simp only [cd_zwI, cd_zwL, cd_zI, cd_zJ, cd_zcp, true_and, if_true, cd_zk_2, cd_zR_2_1, cd_zR_2_12, cd_zR_2_6, cd_zk_5]
  exact h
set_option maxRecDepth 1000000 in
set_option maxHeartbeats 8000000 in
theorem cd_s85_9 {s0 : Int32} {L : Nat} {w : Bool} {I : Nat → Nat → Int32} {J : Nat → Nat → Int64} {r : cd_Ret} (h : (if s0 = 0 then (some (some (.int 0), (cd_mm L w I J))) else some (some (.int 1), (cd_mm L w I J))) = some r) : cd_go 85 9 [.ref 2] [.int s0] (cd_mm L w I J) = some r := cd_q85_9 h
set_option maxRecDepth 1000000 in
set_option maxHeartbeats 8000000 in
theorem cd_s86_0 {x1 : Int32} {x2 : Int32} {L : Nat} {w : Bool} {I : Nat → Nat → Int32} {J : Nat → Nat → Int64} {r : cd_Ret} (h : ((cd_ci (cd_c 49 [.ref 2, .int x1] (cd_mm L w I J))).bind fun q => cd_go 86 3 [.ref 2, .int x1, .int x2] [.int q.1] q.2) = some r) : cd_go 86 0 [.ref 2, .int x1, .int x2] [] (cd_mm L w I J) = some r := by
  refine cd_q86_0 ?_
  simp only [cd_zwI, cd_zwL, cd_zI, cd_zJ, cd_zcp, true_and, if_true, cd_zk_2]
  exact h
set_option maxRecDepth 1000000 in
set_option maxHeartbeats 8000000 in
theorem cd_s86_3 {x1 : Int32} {x2 : Int32} {s0 : Int32} {L : Nat} {w : Bool} {I : Nat → Nat → Int32} {J : Nat → Nat → Int64} {r : cd_Ret} (h : (if s0 = 0 then (some (some (.int (-1001)), (cd_mm L w I J))) else (cd_ci (cd_c 74 [.int x2] (cd_mm L w I J))).bind fun q => cd_go 86 8 [.ref 2, .int x1, .int x2] [.int q.1] q.2) = some r) : cd_go 86 3 [.ref 2, .int x1, .int x2] [.int s0] (cd_mm L w I J) = some r := cd_q86_3 h
set_option maxRecDepth 1000000 in
set_option maxHeartbeats 8000000 in
theorem cd_s86_8 {x1 : Int32} {x2 : Int32} {s0 : Int32} {L : Nat} {w : Bool} {I : Nat → Nat → Int32} {J : Nat → Nat → Int64} {r : cd_Ret} (h : (if s0 = 0 then (some (some (.int (-1002)), (cd_mm L w I J))) else (cd_ci (cd_c 79 [.ref 5, .ref (cd_ple w), .ref 45, .int x1, .int x2] (cd_mm L w I J))).bind fun q => cd_go 86 20 [.ref 2, .int x1, .int x2] [.int q.1] q.2) = some r) : cd_go 86 8 [.ref 2, .int x1, .int x2] [.int s0] (cd_mm L w I J) = some r := by
  refine cd_q86_8 ?_
  simp only [cd_zwI, cd_zwL, cd_zI, cd_zJ, cd_zcp, true_and, if_true, cd_zk_2, cd_zR_2_1, cd_zR_2_12, cd_zR_2_6, cd_zk_5]
  exact h
set_option maxRecDepth 1000000 in
set_option maxHeartbeats 8000000 in
theorem cd_s86_20 {x1 : Int32} {x2 : Int32} {s0 : Int32} {L : Nat} {w : Bool} {I : Nat → Nat → Int32} {J : Nat → Nat → Int64} {r : cd_Ret} (h : (if s0 = 0 then (some (some (.int 0), (cd_mm L w I J))) else some (some (.int 1), (cd_mm L w I J))) = some r) : cd_go 86 20 [.ref 2, .int x1, .int x2] [.int s0] (cd_mm L w I J) = some r := cd_q86_20 h
set_option maxRecDepth 1000000 in
set_option maxHeartbeats 8000000 in
theorem cd_s87_0 {x1 : Int32} {L : Nat} {w : Bool} {I : Nat → Nat → Int32} {J : Nat → Nat → Int64} {r : cd_Ret} (h : ((cd_ci (cd_c 49 [.ref 2, .int x1] (cd_mm L w I J))).bind fun q => cd_go 87 3 [.ref 2, .int x1, .null, .null] [.int q.1] q.2) = some r) : cd_go 87 0 [.ref 2, .int x1, .null, .null] [] (cd_mm L w I J) = some r := by
  refine cd_q87_0 ?_
  simp only [cd_zwI, cd_zwL, cd_zI, cd_zJ, cd_zcp, true_and, if_true, cd_zk_2]
  exact h
set_option maxRecDepth 1000000 in
set_option maxHeartbeats 8000000 in
theorem cd_s87_3 {x1 : Int32} {s0 : Int32} {L : Nat} {w : Bool} {I : Nat → Nat → Int32} {J : Nat → Nat → Int64} {r : cd_Ret} (h : (if s0 = 0 then (some (some (.int (-1001)), (cd_mm L w I J))) else (cd_ci (cd_c 79 [.ref 5, .ref (cd_ple w), .ref 45, .int x1, .int 999] (cd_mm L w I J))).bind fun q => cd_go 87 15 [.ref 2, .int x1, .null, .null] [.int q.1] q.2) = some r) : cd_go 87 3 [.ref 2, .int x1, .null, .null] [.int s0] (cd_mm L w I J) = some r := by
  refine cd_q87_3 ?_
  simp only [cd_zwI, cd_zwL, cd_zI, cd_zJ, cd_zcp, true_and, if_true, cd_zk_2, cd_zR_2_1, cd_zR_2_12, cd_zR_2_6, cd_zk_5]
  exact h
set_option maxRecDepth 1000000 in
set_option maxHeartbeats 8000000 in
theorem cd_s87_15 {x1 : Int32} {s0 : Int32} {L : Nat} {w : Bool} {I : Nat → Nat → Int32} {J : Nat → Nat → Int64} {r : cd_Ret} (h : (if s0 = 0 then (cd_go 87 22 [.ref 2, .int x1, .int (-1), .int 512] [] (cd_mm L w I J)) else some (some (.int (-1)), (cd_mm L w I J))) = some r) : cd_go 87 15 [.ref 2, .int x1, .null, .null] [.int s0] (cd_mm L w I J) = some r := cd_q87_15 h
set_option maxRecDepth 1000000 in
set_option maxHeartbeats 8000000 in
theorem cd_s87_22 {x1 : Int32} {x2 : Int32} {x3 : Int32} {L : Nat} {w : Bool} {I : Nat → Nat → Int32} {J : Nat → Nat → Int64} {r : cd_Ret} (h : (if 0 < x3 then (if 999 < (x2 + x3) then (cd_go 87 22 [.ref 2, .int x1, .int x2, .int (x3 / 2)] [] (cd_mm L w I J)) else (cd_ci (cd_c 79 [.ref 5, .ref (cd_ple w), .ref 45, .int x1, .int (x2 + x3)] (cd_mm L w I J))).bind fun q => cd_go 87 40 [.ref 2, .int x1, .int x2, .int x3] [.int q.1] q.2) else some (some (.int (x2 + 1)), (cd_mm L w I J))) = some r) : cd_go 87 22 [.ref 2, .int x1, .int x2, .int x3] [] (cd_mm L w I J) = some r := by
  refine cd_q87_22 ?_
  simp only [cd_zwI, cd_zwL, cd_zI, cd_zJ, cd_zcp, true_and, if_true, cd_zk_2, cd_zR_2_1, cd_zR_2_12, cd_zR_2_6, cd_zk_5]
  exact h
set_option maxRecDepth 1000000 in
set_option maxHeartbeats 8000000 in
theorem cd_s87_40 {x1 : Int32} {x2 : Int32} {x3 : Int32} {s0 : Int32} {L : Nat} {w : Bool} {I : Nat → Nat → Int32} {J : Nat → Nat → Int64} {r : cd_Ret} (h : (if s0 = 0 then (cd_go 87 22 [.ref 2, .int x1, .int x2, .int (x3 / 2)] [] (cd_mm L w I J)) else cd_go 87 22 [.ref 2, .int x1, .int (x2 + x3), .int (x3 / 2)] [] (cd_mm L w I J)) = some r) : cd_go 87 40 [.ref 2, .int x1, .int x2, .int x3] [.int s0] (cd_mm L w I J) = some r := cd_q87_40 h
set_option maxRecDepth 1000000 in
set_option maxHeartbeats 8000000 in
theorem cd_s88_0 {x0 : Int32} {L : Nat} {w : Bool} {I : Nat → Nat → Int32} {J : Nat → Nat → Int64} {r : cd_Ret} (h : (if x0 < 1 then (some (some (.int 0), (cd_mm L w I J))) else if 20 < x0 then (some (some (.int 0), (cd_mm L w I J))) else some (some (.int 1), (cd_mm L w I J))) = some r) : cd_go 88 0 [.int x0] [] (cd_mm L w I J) = some r := cd_q88_0 h
set_option maxRecDepth 1000000 in
set_option maxHeartbeats 8000000 in
theorem cd_s89_0 {p : Nat} (hp : p = 66 ∨ p = 83) {L : Nat} {w : Bool} {I : Nat → Nat → Int32} {J : Nat → Nat → Int64} {r : cd_Ret} (h : (cd_go 89 4 [.ref p, .long 0, .null, .int 0] [] (cd_mm L w I J)) = some r) : cd_go 89 0 [.ref p, .null, .null, .null] [] (cd_mm L w I J) = some r := cd_q89_0 h
set_option maxRecDepth 1000000 in
set_option maxHeartbeats 8000000 in
theorem cd_s89_4 {y1 : Int64} {x3 : Int32} {p : Nat} (hp : p = 66 ∨ p = 83) {L : Nat} {w : Bool} {I : Nat → Nat → Int32} {J : Nat → Nat → Int64} {r : cd_Ret} (h : (if x3 < (I p 1) then (if cd_in x3 3 = true then (cd_go 89 4 [.ref p, .long (y1 ||| (J (p + 10) x3.toNatClampNeg)), .null, .int (x3 + 1)] [] (cd_mm L w I J)) else none) else some (some (.long y1), (cd_mm L w I J))) = some r) : cd_go 89 4 [.ref p, .long y1, .null, .int x3] [] (cd_mm L w I J) = some r := by
  refine cd_q89_4 ?_
  simp only [cd_zwI, cd_zwL, cd_zI, cd_zJ, cd_zcp, true_and, if_true, cd_zk_p0_66_83 hp, cd_zR_p0_66_83_13 hp, cd_zk_p10_66_83 hp, cd_zn_p10_66_83 hp]
  exact h
set_option maxRecDepth 1000000 in
set_option maxHeartbeats 8000000 in
theorem cd_s90_0 {x3 : Int32} {p : Nat} (hp : p = 66 ∨ p = 83) {s : Nat} (hs : s = 22 ∨ s = 45) {z : Nat} (hz : z = 14 ∨ z = 38) {L : Nat} {w : Bool} {I : Nat → Nat → Int32} {J : Nat → Nat → Int64} {r : cd_Ret} (h : ((cd_cl (cd_c 89 [.ref p] (cd_mm L w I J))).bind fun q => cd_go 90 2 [.ref z, .ref p, .ref s, .int x3, .null, .null, .null, .null, .null] [.long q.1] q.2) = some r) : cd_go 90 0 [.ref z, .ref p, .ref s, .int x3, .null, .null, .null, .null, .null] [] (cd_mm L w I J) = some r := by
  refine cd_q90_0 ?_
  simp only [cd_zwI, cd_zwL, cd_zI, cd_zJ, cd_zcp, true_and, if_true, cd_zk_p0_66_83 hp]
  exact h
set_option maxRecDepth 1000000 in
set_option maxHeartbeats 8000000 in
theorem cd_s90_2 {x3 : Int32} {t0 : Int64} {p : Nat} (hp : p = 66 ∨ p = 83) {s : Nat} (hs : s = 22 ∨ s = 45) {z : Nat} (hz : z = 14 ∨ z = 38) {L : Nat} {w : Bool} {I : Nat → Nat → Int32} {J : Nat → Nat → Int64} {r : cd_Ret} (h : ((cd_cl (cd_c 24 [.ref s, .int (I p 0)] (cd_mm L w I J))).bind fun q => cd_go 90 6 [.ref z, .ref p, .ref s, .int x3, .null, .null, .null, .null, .null] [.long q.1, .long t0] q.2) = some r) : cd_go 90 2 [.ref z, .ref p, .ref s, .int x3, .null, .null, .null, .null, .null] [.long t0] (cd_mm L w I J) = some r := by
  refine cd_q90_2 ?_
  simp only [cd_zwI, cd_zwL, cd_zI, cd_zJ, cd_zcp, true_and, if_true, cd_zk_p0_66_83 hp, cd_zk_s0_22_45 hs]
  exact h
set_option maxRecDepth 1000000 in
set_option maxHeartbeats 8000000 in
theorem cd_s90_6 {x3 : Int32} {t0 : Int64} {t1 : Int64} {p : Nat} (hp : p = 66 ∨ p = 83) {s : Nat} (hs : s = 22 ∨ s = 45) {z : Nat} (hz : z = 14 ∨ z = 38) {L : Nat} {w : Bool} {I : Nat → Nat → Int32} {J : Nat → Nat → Int64} {r : cd_Ret} (h : (cd_go 90 14 [.ref z, .ref p, .ref s, .int x3, .long (t0 &&& (t1 ^^^ (-1))), .null, .long 0, .null, .int 0] [] (cd_mm L w I J)) = some r) : cd_go 90 6 [.ref z, .ref p, .ref s, .int x3, .null, .null, .null, .null, .null] [.long t1, .long t0] (cd_mm L w I J) = some r := cd_q90_6 h
set_option maxRecDepth 1000000 in
set_option maxHeartbeats 8000000 in
theorem cd_s90_14 {x3 : Int32} {y4 : Int64} {y6 : Int64} {x8 : Int32} {p : Nat} (hp : p = 66 ∨ p = 83) {s : Nat} (hs : s = 22 ∨ s = 45) {z : Nat} (hz : z = 14 ∨ z = 38) {L : Nat} {w : Bool} {I : Nat → Nat → Int32} {J : Nat → Nat → Int64} {r : cd_Ret} (h : (if x8 < 64 then (if (lg_cmp (((y4.toUInt64 >>> (x8.toInt64.toUInt64 &&& Int64.toUInt64 63)).toInt64) &&& 1) 0) = 0 then (cd_go 90 14 [.ref z, .ref p, .ref s, .int x3, .long y4, .null, .long y6, .null, .int (x8 + 1)] [] (cd_mm L w I J)) else (cd_ci (cd_c 72 [.ref z, .int x8] (cd_mm L w I J))).bind fun q => cd_go 90 28 [.ref z, .ref p, .ref s, .int x3, .long y4, .null, .long y6, .null, .int x8] [.int q.1] q.2) else some (some (.long y6), (cd_mm L w I J))) = some r) : cd_go 90 14 [.ref z, .ref p, .ref s, .int x3, .long y4, .null, .long y6, .null, .int x8] [] (cd_mm L w I J) = some r := by
  refine cd_q90_14 ?_
  simp only [cd_zwI, cd_zwL, cd_zI, cd_zJ, cd_zcp, true_and, if_true, cd_zk_z0_14_38 hz]
  exact h
set_option maxRecDepth 1000000 in
set_option maxHeartbeats 8000000 in
theorem cd_s90_28 {x3 : Int32} {y4 : Int64} {y6 : Int64} {x8 : Int32} {s0 : Int32} {p : Nat} (hp : p = 66 ∨ p = 83) {s : Nat} (hs : s = 22 ∨ s = 45) {z : Nat} (hz : z = 14 ∨ z = 38) {L : Nat} {w : Bool} {I : Nat → Nat → Int32} {J : Nat → Nat → Int64} {r : cd_Ret} (h : (if s0 < x3 then (cd_go 90 14 [.ref z, .ref p, .ref s, .int x3, .long y4, .null, .long y6, .null, .int (x8 + 1)] [] (cd_mm L w I J)) else cd_go 90 14 [.ref z, .ref p, .ref s, .int x3, .long y4, .null, .long (y6 ||| ((1 : Int64) <<< (x8.toInt64 &&& 63))), .null, .int (x8 + 1)] [] (cd_mm L w I J)) = some r) : cd_go 90 28 [.ref z, .ref p, .ref s, .int x3, .long y4, .null, .long y6, .null, .int x8] [.int s0] (cd_mm L w I J) = some r := cd_q90_28 h
set_option maxRecDepth 1000000 in
set_option maxHeartbeats 8000000 in
theorem cd_s91_0 {y0 : Int64} {L : Nat} {w : Bool} {I : Nat → Nat → Int32} {J : Nat → Nat → Int64} {r : cd_Ret} (h : (some (some (.long ((((y0 <<< ((8 : Int32).toInt64 &&& 63)) ||| ((y0.toUInt64 >>> ((8 : Int32).toInt64.toUInt64 &&& Int64.toUInt64 63)).toInt64)) ||| ((y0 &&& 9187201950435737471) <<< ((1 : Int32).toInt64 &&& 63))) ||| (((y0 &&& (-72340172838076674)).toUInt64 >>> ((1 : Int32).toInt64.toUInt64 &&& Int64.toUInt64 63)).toInt64))), (cd_mm L w I J))) = some r) : cd_go 91 0 [.long y0, .null, .null, .null, .null, .null] [] (cd_mm L w I J) = some r := cd_q91_0 h
set_option maxRecDepth 1000000 in
set_option maxHeartbeats 8000000 in
theorem cd_s92_0 {y0 : Int64} {L : Nat} {w : Bool} {I : Nat → Nat → Int32} {J : Nat → Nat → Int64} {r : cd_Ret} (h : (cd_go 92 7 [.long y0, .null, .long (y0 &&& (-y0)), .null, .int 0, .null, .null] [] (cd_mm L w I J)) = some r) : cd_go 92 0 [.long y0, .null, .null, .null, .null, .null, .null] [] (cd_mm L w I J) = some r := cd_q92_0 h
set_option maxRecDepth 1000000 in
set_option maxHeartbeats 8000000 in
theorem cd_s92_7 {y0 : Int64} {y2 : Int64} {x4 : Int32} {w5 : Value} {L : Nat} {w : Bool} {I : Nat → Nat → Int32} {J : Nat → Nat → Int64} {r : cd_Ret} (h : (if x4 < 64 then ((cd_cl (cd_c 91 [.long y2] (cd_mm L w I J))).bind fun q => cd_go 92 13 [.long y0, .null, .long y2, .null, .int x4, w5, .null] [.long q.1, .long y2] q.2) else some (some (.long y2), (cd_mm L w I J))) = some r) : cd_go 92 7 [.long y0, .null, .long y2, .null, .int x4, w5, .null] [] (cd_mm L w I J) = some r := cd_q92_7 h
set_option maxRecDepth 1000000 in
set_option maxHeartbeats 8000000 in
theorem cd_s92_13 {y0 : Int64} {y2 : Int64} {x4 : Int32} {w5 : Value} {t0 : Int64} {t1 : Int64} {L : Nat} {w : Bool} {I : Nat → Nat → Int32} {J : Nat → Nat → Int64} {r : cd_Ret} (h : (if (lg_cmp ((t0 ||| t1) &&& y0) y2) = 0 then (some (some (.long y2), (cd_mm L w I J))) else cd_go 92 7 [.long y0, .null, .long ((t0 ||| t1) &&& y0), .null, .int (x4 + 1), .long ((t0 ||| t1) &&& y0), .null] [] (cd_mm L w I J)) = some r) : cd_go 92 13 [.long y0, .null, .long y2, .null, .int x4, w5, .null] [.long t1, .long t0] (cd_mm L w I J) = some r := cd_q92_13 h
set_option maxRecDepth 1000000 in
set_option maxHeartbeats 8000000 in
theorem cd_s93_0 {y0 : Int64} {L : Nat} {w : Bool} {I : Nat → Nat → Int32} {J : Nat → Nat → Int64} {r : cd_Ret} (h : (some (some (.int ((((((((((y0 - (((y0.toUInt64 >>> ((1 : Int32).toInt64.toUInt64 &&& Int64.toUInt64 63)).toInt64) &&& 6148914691236517205)) &&& 3689348814741910323) + ((((y0 - (((y0.toUInt64 >>> ((1 : Int32).toInt64.toUInt64 &&& Int64.toUInt64 63)).toInt64) &&& 6148914691236517205)).toUInt64 >>> ((2 : Int32).toInt64.toUInt64 &&& Int64.toUInt64 63)).toInt64) &&& 3689348814741910323)) + (((((y0 - (((y0.toUInt64 >>> ((1 : Int32).toInt64.toUInt64 &&& Int64.toUInt64 63)).toInt64) &&& 6148914691236517205)) &&& 3689348814741910323) + ((((y0 - (((y0.toUInt64 >>> ((1 : Int32).toInt64.toUInt64 &&& Int64.toUInt64 63)).toInt64) &&& 6148914691236517205)).toUInt64 >>> ((2 : Int32).toInt64.toUInt64 &&& Int64.toUInt64 63)).toInt64) &&& 3689348814741910323)).toUInt64 >>> ((4 : Int32).toInt64.toUInt64 &&& Int64.toUInt64 63)).toInt64)) &&& 1085102592571150095) + (((((((y0 - (((y0.toUInt64 >>> ((1 : Int32).toInt64.toUInt64 &&& Int64.toUInt64 63)).toInt64) &&& 6148914691236517205)) &&& 3689348814741910323) + ((((y0 - (((y0.toUInt64 >>> ((1 : Int32).toInt64.toUInt64 &&& Int64.toUInt64 63)).toInt64) &&& 6148914691236517205)).toUInt64 >>> ((2 : Int32).toInt64.toUInt64 &&& Int64.toUInt64 63)).toInt64) &&& 3689348814741910323)) + (((((y0 - (((y0.toUInt64 >>> ((1 : Int32).toInt64.toUInt64 &&& Int64.toUInt64 63)).toInt64) &&& 6148914691236517205)) &&& 3689348814741910323) + ((((y0 - (((y0.toUInt64 >>> ((1 : Int32).toInt64.toUInt64 &&& Int64.toUInt64 63)).toInt64) &&& 6148914691236517205)).toUInt64 >>> ((2 : Int32).toInt64.toUInt64 &&& Int64.toUInt64 63)).toInt64) &&& 3689348814741910323)).toUInt64 >>> ((4 : Int32).toInt64.toUInt64 &&& Int64.toUInt64 63)).toInt64)) &&& 1085102592571150095).toUInt64 >>> ((8 : Int32).toInt64.toUInt64 &&& Int64.toUInt64 63)).toInt64)) + ((((((((y0 - (((y0.toUInt64 >>> ((1 : Int32).toInt64.toUInt64 &&& Int64.toUInt64 63)).toInt64) &&& 6148914691236517205)) &&& 3689348814741910323) + ((((y0 - (((y0.toUInt64 >>> ((1 : Int32).toInt64.toUInt64 &&& Int64.toUInt64 63)).toInt64) &&& 6148914691236517205)).toUInt64 >>> ((2 : Int32).toInt64.toUInt64 &&& Int64.toUInt64 63)).toInt64) &&& 3689348814741910323)) + (((((y0 - (((y0.toUInt64 >>> ((1 : Int32).toInt64.toUInt64 &&& Int64.toUInt64 63)).toInt64) &&& 6148914691236517205)) &&& 3689348814741910323) + ((((y0 - (((y0.toUInt64 >>> ((1 : Int32).toInt64.toUInt64 &&& Int64.toUInt64 63)).toInt64) &&& 6148914691236517205)).toUInt64 >>> ((2 : Int32).toInt64.toUInt64 &&& Int64.toUInt64 63)).toInt64) &&& 3689348814741910323)).toUInt64 >>> ((4 : Int32).toInt64.toUInt64 &&& Int64.toUInt64 63)).toInt64)) &&& 1085102592571150095) + (((((((y0 - (((y0.toUInt64 >>> ((1 : Int32).toInt64.toUInt64 &&& Int64.toUInt64 63)).toInt64) &&& 6148914691236517205)) &&& 3689348814741910323) + ((((y0 - (((y0.toUInt64 >>> ((1 : Int32).toInt64.toUInt64 &&& Int64.toUInt64 63)).toInt64) &&& 6148914691236517205)).toUInt64 >>> ((2 : Int32).toInt64.toUInt64 &&& Int64.toUInt64 63)).toInt64) &&& 3689348814741910323)) + (((((y0 - (((y0.toUInt64 >>> ((1 : Int32).toInt64.toUInt64 &&& Int64.toUInt64 63)).toInt64) &&& 6148914691236517205)) &&& 3689348814741910323) + ((((y0 - (((y0.toUInt64 >>> ((1 : Int32).toInt64.toUInt64 &&& Int64.toUInt64 63)).toInt64) &&& 6148914691236517205)).toUInt64 >>> ((2 : Int32).toInt64.toUInt64 &&& Int64.toUInt64 63)).toInt64) &&& 3689348814741910323)).toUInt64 >>> ((4 : Int32).toInt64.toUInt64 &&& Int64.toUInt64 63)).toInt64)) &&& 1085102592571150095).toUInt64 >>> ((8 : Int32).toInt64.toUInt64 &&& Int64.toUInt64 63)).toInt64)).toUInt64 >>> ((16 : Int32).toInt64.toUInt64 &&& Int64.toUInt64 63)).toInt64)) + (((((((((y0 - (((y0.toUInt64 >>> ((1 : Int32).toInt64.toUInt64 &&& Int64.toUInt64 63)).toInt64) &&& 6148914691236517205)) &&& 3689348814741910323) + ((((y0 - (((y0.toUInt64 >>> ((1 : Int32).toInt64.toUInt64 &&& Int64.toUInt64 63)).toInt64) &&& 6148914691236517205)).toUInt64 >>> ((2 : Int32).toInt64.toUInt64 &&& Int64.toUInt64 63)).toInt64) &&& 3689348814741910323)) + (((((y0 - (((y0.toUInt64 >>> ((1 : Int32).toInt64.toUInt64 &&& Int64.toUInt64 63)).toInt64) &&& 6148914691236517205)) &&& 3689348814741910323) + ((((y0 - (((y0.toUInt64 >>> ((1 : Int32).toInt64.toUInt64 &&& Int64.toUInt64 63)).toInt64) &&& 6148914691236517205)).toUInt64 >>> ((2 : Int32).toInt64.toUInt64 &&& Int64.toUInt64 63)).toInt64) &&& 3689348814741910323)).toUInt64 >>> ((4 : Int32).toInt64.toUInt64 &&& Int64.toUInt64 63)).toInt64)) &&& 1085102592571150095) + (((((((y0 - (((y0.toUInt64 >>> ((1 : Int32).toInt64.toUInt64 &&& Int64.toUInt64 63)).toInt64) &&& 6148914691236517205)) &&& 3689348814741910323) + ((((y0 - (((y0.toUInt64 >>> ((1 : Int32).toInt64.toUInt64 &&& Int64.toUInt64 63)).toInt64) &&& 6148914691236517205)).toUInt64 >>> ((2 : Int32).toInt64.toUInt64 &&& Int64.toUInt64 63)).toInt64) &&& 3689348814741910323)) + (((((y0 - (((y0.toUInt64 >>> ((1 : Int32).toInt64.toUInt64 &&& Int64.toUInt64 63)).toInt64) &&& 6148914691236517205)) &&& 3689348814741910323) + ((((y0 - (((y0.toUInt64 >>> ((1 : Int32).toInt64.toUInt64 &&& Int64.toUInt64 63)).toInt64) &&& 6148914691236517205)).toUInt64 >>> ((2 : Int32).toInt64.toUInt64 &&& Int64.toUInt64 63)).toInt64) &&& 3689348814741910323)).toUInt64 >>> ((4 : Int32).toInt64.toUInt64 &&& Int64.toUInt64 63)).toInt64)) &&& 1085102592571150095).toUInt64 >>> ((8 : Int32).toInt64.toUInt64 &&& Int64.toUInt64 63)).toInt64)) + ((((((((y0 - (((y0.toUInt64 >>> ((1 : Int32).toInt64.toUInt64 &&& Int64.toUInt64 63)).toInt64) &&& 6148914691236517205)) &&& 3689348814741910323) + ((((y0 - (((y0.toUInt64 >>> ((1 : Int32).toInt64.toUInt64 &&& Int64.toUInt64 63)).toInt64) &&& 6148914691236517205)).toUInt64 >>> ((2 : Int32).toInt64.toUInt64 &&& Int64.toUInt64 63)).toInt64) &&& 3689348814741910323)) + (((((y0 - (((y0.toUInt64 >>> ((1 : Int32).toInt64.toUInt64 &&& Int64.toUInt64 63)).toInt64) &&& 6148914691236517205)) &&& 3689348814741910323) + ((((y0 - (((y0.toUInt64 >>> ((1 : Int32).toInt64.toUInt64 &&& Int64.toUInt64 63)).toInt64) &&& 6148914691236517205)).toUInt64 >>> ((2 : Int32).toInt64.toUInt64 &&& Int64.toUInt64 63)).toInt64) &&& 3689348814741910323)).toUInt64 >>> ((4 : Int32).toInt64.toUInt64 &&& Int64.toUInt64 63)).toInt64)) &&& 1085102592571150095) + (((((((y0 - (((y0.toUInt64 >>> ((1 : Int32).toInt64.toUInt64 &&& Int64.toUInt64 63)).toInt64) &&& 6148914691236517205)) &&& 3689348814741910323) + ((((y0 - (((y0.toUInt64 >>> ((1 : Int32).toInt64.toUInt64 &&& Int64.toUInt64 63)).toInt64) &&& 6148914691236517205)).toUInt64 >>> ((2 : Int32).toInt64.toUInt64 &&& Int64.toUInt64 63)).toInt64) &&& 3689348814741910323)) + (((((y0 - (((y0.toUInt64 >>> ((1 : Int32).toInt64.toUInt64 &&& Int64.toUInt64 63)).toInt64) &&& 6148914691236517205)) &&& 3689348814741910323) + ((((y0 - (((y0.toUInt64 >>> ((1 : Int32).toInt64.toUInt64 &&& Int64.toUInt64 63)).toInt64) &&& 6148914691236517205)).toUInt64 >>> ((2 : Int32).toInt64.toUInt64 &&& Int64.toUInt64 63)).toInt64) &&& 3689348814741910323)).toUInt64 >>> ((4 : Int32).toInt64.toUInt64 &&& Int64.toUInt64 63)).toInt64)) &&& 1085102592571150095).toUInt64 >>> ((8 : Int32).toInt64.toUInt64 &&& Int64.toUInt64 63)).toInt64)).toUInt64 >>> ((16 : Int32).toInt64.toUInt64 &&& Int64.toUInt64 63)).toInt64)).toUInt64 >>> ((32 : Int32).toInt64.toUInt64 &&& Int64.toUInt64 63)).toInt64)).toInt32) &&& 127)), (cd_mm L w I J))) = some r) : cd_go 93 0 [.long y0, .null] [] (cd_mm L w I J) = some r := cd_q93_0 h
set_option maxRecDepth 1000000 in
set_option maxHeartbeats 8000000 in
theorem cd_s94_0 {y0 : Int64} {L : Nat} {w : Bool} {I : Nat → Nat → Int32} {J : Nat → Nat → Int64} {r : cd_Ret} (h : (cd_go 94 6 [.long y0, .null, .long 0, .null, .long y0, .null, .int 0, .null, .null] [] (cd_mm L w I J)) = some r) : cd_go 94 0 [.long y0, .null, .null, .null, .null, .null, .null, .null, .null] [] (cd_mm L w I J) = some r := cd_q94_0 h
set_option maxRecDepth 1000000 in
set_option maxHeartbeats 8000000 in
theorem cd_s94_6 {y0 : Int64} {y2 : Int64} {y4 : Int64} {x6 : Int32} {w7 : Value} {L : Nat} {w : Bool} {I : Nat → Nat → Int32} {J : Nat → Nat → Int64} {r : cd_Ret} (h : (if x6 < 64 then (if (lg_cmp y4 0) = 0 then (some (some (.long y2), (cd_mm L w I J))) else (cd_cl (cd_c 92 [.long y4] (cd_mm L w I J))).bind fun q => cd_go 94 15 [.long y0, .null, .long y2, .null, .long y4, .null, .int x6, w7, .null] [.long q.1] q.2) else some (some (.long y2), (cd_mm L w I J))) = some r) : cd_go 94 6 [.long y0, .null, .long y2, .null, .long y4, .null, .int x6, w7, .null] [] (cd_mm L w I J) = some r := cd_q94_6 h
set_option maxRecDepth 1000000 in
set_option maxHeartbeats 8000000 in
theorem cd_s94_15 {y0 : Int64} {y2 : Int64} {y4 : Int64} {x6 : Int32} {w7 : Value} {t0 : Int64} {L : Nat} {w : Bool} {I : Nat → Nat → Int32} {J : Nat → Nat → Int64} {r : cd_Ret} (h : ((cd_ci (cd_c 93 [.long t0] (cd_mm L w I J))).bind fun q => cd_go 94 18 [.long y0, .null, .long y2, .null, .long y4, .null, .int x6, .long t0, .null] [.int q.1] q.2) = some r) : cd_go 94 15 [.long y0, .null, .long y2, .null, .long y4, .null, .int x6, w7, .null] [.long t0] (cd_mm L w I J) = some r := cd_q94_15 h
set_option maxRecDepth 1000000 in
set_option maxHeartbeats 8000000 in
theorem cd_s94_18 {y0 : Int64} {y2 : Int64} {y4 : Int64} {x6 : Int32} {y7 : Int64} {s0 : Int32} {L : Nat} {w : Bool} {I : Nat → Nat → Int32} {J : Nat → Nat → Int64} {r : cd_Ret} (h : ((cd_ci (cd_c 93 [.long y2] (cd_mm L w I J))).bind fun q => cd_go 94 20 [.long y0, .null, .long y2, .null, .long y4, .null, .int x6, .long y7, .null] [.int q.1, .int s0] q.2) = some r) : cd_go 94 18 [.long y0, .null, .long y2, .null, .long y4, .null, .int x6, .long y7, .null] [.int s0] (cd_mm L w I J) = some r := cd_q94_18 h
set_option maxRecDepth 1000000 in
set_option maxHeartbeats 8000000 in
theorem cd_s94_20 {y0 : Int64} {y2 : Int64} {y4 : Int64} {x6 : Int32} {y7 : Int64} {s0 : Int32} {s1 : Int32} {L : Nat} {w : Bool} {I : Nat → Nat → Int32} {J : Nat → Nat → Int64} {r : cd_Ret} (h : (if s1 < s0 then (cd_go 94 6 [.long y0, .null, .long y7, .null, .long (y4 &&& (y7 ^^^ (-1))), .null, .int (x6 + 1), .long y7, .null] [] (cd_mm L w I J)) else cd_go 94 6 [.long y0, .null, .long y2, .null, .long (y4 &&& (y7 ^^^ (-1))), .null, .int (x6 + 1), .long y7, .null] [] (cd_mm L w I J)) = some r) : cd_go 94 20 [.long y0, .null, .long y2, .null, .long y4, .null, .int x6, .long y7, .null] [.int s1, .int s0] (cd_mm L w I J) = some r := cd_q94_20 h
set_option maxRecDepth 1000000 in
set_option maxHeartbeats 8000000 in
theorem cd_s95_0 {x1 : Int32} {L : Nat} {w : Bool} {I : Nat → Nat → Int32} {J : Nat → Nat → Int64} {r : cd_Ret} (h : ((cd_cv (cd_c 53 [.ref 38, .ref (cd_ple w), .ref 45] (cd_mm L w I J))).bind fun m => cd_go 95 7 [.ref 2, .int x1] [] m) = some r) : cd_go 95 0 [.ref 2, .int x1] [] (cd_mm L w I J) = some r := by
  refine cd_q95_0 ?_
  simp only [cd_zwI, cd_zwL, cd_zI, cd_zJ, cd_zcp, true_and, if_true, cd_zk_2, cd_zR_2_4, cd_zR_2_12, cd_zR_2_6, cd_zk_38]
  exact h
set_option maxRecDepth 1000000 in
set_option maxHeartbeats 8000000 in
theorem cd_s95_7 {x1 : Int32} {L : Nat} {w : Bool} {I : Nat → Nat → Int32} {J : Nat → Nat → Int64} {r : cd_Ret} (h : ((cd_cl (cd_c 90 [.ref 38, .ref (cd_ple w), .ref 45, .int x1] (cd_mm L w I J))).bind fun q => cd_go 95 15 [.ref 2, .int x1] [.long q.1] q.2) = some r) : cd_go 95 7 [.ref 2, .int x1] [] (cd_mm L w I J) = some r := by
  refine cd_q95_7 ?_
  simp only [cd_zwI, cd_zwL, cd_zI, cd_zJ, cd_zcp, true_and, if_true, cd_zk_2, cd_zR_2_4, cd_zR_2_12, cd_zR_2_6, cd_zk_38]
  exact h
set_option maxRecDepth 1000000 in
set_option maxHeartbeats 8000000 in
theorem cd_s95_15 {x1 : Int32} {t0 : Int64} {L : Nat} {w : Bool} {I : Nat → Nat → Int32} {J : Nat → Nat → Int64} {r : cd_Ret} (h : ((cd_cl (cd_c 94 [.long t0] (cd_mm L w I J))).bind fun q => cd_go 95 16 [.ref 2, .int x1] [.long q.1] q.2) = some r) : cd_go 95 15 [.ref 2, .int x1] [.long t0] (cd_mm L w I J) = some r := cd_q95_15 h
set_option maxRecDepth 1000000 in
set_option maxHeartbeats 8000000 in
theorem cd_s95_16 {x1 : Int32} {t0 : Int64} {L : Nat} {w : Bool} {I : Nat → Nat → Int32} {J : Nat → Nat → Int64} {r : cd_Ret} (h : (some (some (.long t0), (cd_mm L w I J))) = some r) : cd_go 95 16 [.ref 2, .int x1] [.long t0] (cd_mm L w I J) = some r := cd_q95_16 h
set_option maxRecDepth 1000000 in
set_option maxHeartbeats 8000000 in
theorem cd_s96_0 {y0 : Int64} {L : Nat} {w : Bool} {I : Nat → Nat → Int32} {J : Nat → Nat → Int64} {r : cd_Ret} (h : (if (lg_cmp y0 0) = 0 then (cd_go 96 13 [.long y0, .null] [.int (-1)] (cd_mm L w I J)) else (cd_ci (cd_c 93 [.long ((y0 &&& (-y0)) - 1)] (cd_mm L w I J))).bind fun q => cd_go 96 13 [.long y0, .null] [.int q.1] q.2) = some r) : cd_go 96 0 [.long y0, .null] [] (cd_mm L w I J) = some r := cd_q96_0 h
set_option maxRecDepth 1000000 in
set_option maxHeartbeats 8000000 in
theorem cd_s96_13 {y0 : Int64} {s0 : Int32} {L : Nat} {w : Bool} {I : Nat → Nat → Int32} {J : Nat → Nat → Int64} {r : cd_Ret} (h : (some (some (.int s0), (cd_mm L w I J))) = some r) : cd_go 96 13 [.long y0, .null] [.int s0] (cd_mm L w I J) = some r := cd_q96_13 h
set_option maxRecDepth 1000000 in
set_option maxHeartbeats 8000000 in
theorem cd_s97_0 {L : Nat} {w : Bool} {I : Nat → Nat → Int32} {J : Nat → Nat → Int64} {r : cd_Ret} (h : ((cd_cl (cd_c 89 [.ref (cd_ple w)] (cd_mm L w I J))).bind fun q => cd_go 97 3 [.ref 2] [.long q.1] q.2) = some r) : cd_go 97 0 [.ref 2] [] (cd_mm L w I J) = some r := by
  refine cd_q97_0 ?_
  simp only [cd_zwI, cd_zwL, cd_zI, cd_zJ, cd_zcp, true_and, if_true, cd_zk_2, cd_zR_2_12, cd_zk_w0_]
  exact h
set_option maxRecDepth 1000000 in
set_option maxHeartbeats 8000000 in
theorem cd_s97_3 {t0 : Int64} {L : Nat} {w : Bool} {I : Nat → Nat → Int32} {J : Nat → Nat → Int64} {r : cd_Ret} (h : ((cd_cl (cd_c 24 [.ref 45, .int (I (cd_ple w) 0)] (cd_mm L w I J))).bind fun q => cd_go 97 11 [.ref 2] [.long q.1, .long (t0 ^^^ (-1))] q.2) = some r) : cd_go 97 3 [.ref 2] [.long t0] (cd_mm L w I J) = some r := by
  refine cd_q97_3 ?_
  simp only [cd_zwI, cd_zwL, cd_zI, cd_zJ, cd_zcp, true_and, if_true, cd_zk_2, cd_zR_2_6, cd_zR_2_12, cd_zk_w0_, cd_zk_45]
  exact h
set_option maxRecDepth 1000000 in
set_option maxHeartbeats 8000000 in
theorem cd_s97_11 {t0 : Int64} {t1 : Int64} {L : Nat} {w : Bool} {I : Nat → Nat → Int32} {J : Nat → Nat → Int64} {r : cd_Ret} (h : (some (some (.long (t0 &&& (t1 ^^^ (-1)))), (cd_mm L w I J))) = some r) : cd_go 97 11 [.ref 2] [.long t1, .long t0] (cd_mm L w I J) = some r := cd_q97_11 h
set_option maxRecDepth 1000000 in
set_option maxHeartbeats 8000000 in
theorem cd_s98_0 {y0 : Int64} {y2 : Int64} {L : Nat} {w : Bool} {I : Nat → Nat → Int32} {J : Nat → Nat → Int64} {r : cd_Ret} (h : ((cd_cl (cd_c 91 [.long y2] (cd_mm L w I J))).bind fun q => cd_go 98 3 [.long y0, .null, .long y2, .null] [.long q.1, .long y0] q.2) = some r) : cd_go 98 0 [.long y0, .null, .long y2, .null] [] (cd_mm L w I J) = some r := cd_q98_0 h
set_option maxRecDepth 1000000 in
set_option maxHeartbeats 8000000 in
theorem cd_s98_3 {y0 : Int64} {y2 : Int64} {t0 : Int64} {t1 : Int64} {L : Nat} {w : Bool} {I : Nat → Nat → Int32} {J : Nat → Nat → Int64} {r : cd_Ret} (h : ((cd_ci (cd_c 93 [.long (t0 &&& t1)] (cd_mm L w I J))).bind fun q => cd_go 98 5 [.long y0, .null, .long y2, .null] [.int q.1] q.2) = some r) : cd_go 98 3 [.long y0, .null, .long y2, .null] [.long t1, .long t0] (cd_mm L w I J) = some r := cd_q98_3 h
set_option maxRecDepth 1000000 in
set_option maxHeartbeats 8000000 in
theorem cd_s98_5 {y0 : Int64} {y2 : Int64} {s0 : Int32} {L : Nat} {w : Bool} {I : Nat → Nat → Int32} {J : Nat → Nat → Int64} {r : cd_Ret} (h : (some (some (.int s0), (cd_mm L w I J))) = some r) : cd_go 98 5 [.long y0, .null, .long y2, .null] [.int s0] (cd_mm L w I J) = some r := cd_q98_5 h
set_option maxRecDepth 1000000 in
set_option maxHeartbeats 8000000 in
theorem cd_s99_0 {y1 : Int64} {p : Nat} (hp : p = 66 ∨ p = 83) {L : Nat} {w : Bool} {I : Nat → Nat → Int32} {J : Nat → Nat → Int64} {r : cd_Ret} (h : ((cd_cl (cd_c 89 [.ref p] (cd_mm L w I J))).bind fun q => cd_go 99 2 [.ref p, .long y1, .null, .null, .null, .null, .null] [.long q.1] q.2) = some r) : cd_go 99 0 [.ref p, .long y1, .null, .null, .null, .null, .null] [] (cd_mm L w I J) = some r := by
  refine cd_q99_0 ?_
  simp only [cd_zwI, cd_zwL, cd_zI, cd_zJ, cd_zcp, true_and, if_true, cd_zk_p0_66_83 hp]
  exact h
set_option maxRecDepth 1000000 in
set_option maxHeartbeats 8000000 in
theorem cd_s99_2 {y1 : Int64} {t0 : Int64} {p : Nat} (hp : p = 66 ∨ p = 83) {L : Nat} {w : Bool} {I : Nat → Nat → Int32} {J : Nat → Nat → Int64} {r : cd_Ret} (h : (if (lg_cmp (t0 ^^^ (-1)) 0) = 0 then (cd_go 99 15 [.ref p, .long y1, .null, .long (t0 ^^^ (-1)), .null, .int 100, .int 0] [] (cd_mm L w I J)) else cd_go 99 15 [.ref p, .long y1, .null, .long (t0 ^^^ (-1)), .null, .int 0, .int 0] [] (cd_mm L w I J)) = some r) : cd_go 99 2 [.ref p, .long y1, .null, .null, .null, .null, .null] [.long t0] (cd_mm L w I J) = some r := cd_q99_2 h
set_option maxRecDepth 1000000 in
set_option maxHeartbeats 8000000 in
theorem cd_s99_15 {y1 : Int64} {y3 : Int64} {x5 : Int32} {x6 : Int32} {p : Nat} (hp : p = 66 ∨ p = 83) {L : Nat} {w : Bool} {I : Nat → Nat → Int32} {J : Nat → Nat → Int64} {r : cd_Ret} (h : (if x6 < 64 then (if (lg_cmp y3 0) = 0 then (some (some (.int (if (0 : Int32) < ((I p 16) - ((I p 17) * x5)) then ((I p 16) - ((I p 17) * x5)) else (0 : Int32))), (cd_mm L w I J))) else if (lg_cmp (y3 &&& y1) 0) = 0 then ((cd_cl (cd_c 91 [.long y3] (cd_mm L w I J))).bind fun q => cd_go 99 31 [.ref p, .long y1, .null, .long y3, .null, .int x5, .int x6] [.long q.1, .long y3] q.2) else some (some (.int (if (0 : Int32) < ((I p 16) - ((I p 17) * x5)) then ((I p 16) - ((I p 17) * x5)) else (0 : Int32))), (cd_mm L w I J))) else some (some (.int (if (0 : Int32) < ((I p 16) - ((I p 17) * x5)) then ((I p 16) - ((I p 17) * x5)) else (0 : Int32))), (cd_mm L w I J))) = some r) : cd_go 99 15 [.ref p, .long y1, .null, .long y3, .null, .int x5, .int x6] [] (cd_mm L w I J) = some r := by
  refine cd_q99_15 ?_
  simp only [cd_zwI, cd_zwL, cd_zI, cd_zJ, cd_zcp, true_and, if_true, cd_zk_p0_66_83 hp]
  exact h
set_option maxRecDepth 1000000 in
set_option maxHeartbeats 8000000 in
theorem cd_s99_31 {y1 : Int64} {y3 : Int64} {x5 : Int32} {x6 : Int32} {t0 : Int64} {t1 : Int64} {p : Nat} (hp : p = 66 ∨ p = 83) {L : Nat} {w : Bool} {I : Nat → Nat → Int32} {J : Nat → Nat → Int64} {r : cd_Ret} (h : (cd_go 99 15 [.ref p, .long y1, .null, .long (t0 ||| t1), .null, .int (x5 + 1), .int (x6 + 1)] [] (cd_mm L w I J)) = some r) : cd_go 99 31 [.ref p, .long y1, .null, .long y3, .null, .int x5, .int x6] [.long t1, .long t0] (cd_mm L w I J) = some r := cd_q99_31 h
set_option maxRecDepth 1000000 in
set_option maxHeartbeats 8000000 in
theorem cd_s100_0 {y1 : Int64} {L : Nat} {w : Bool} {I : Nat → Nat → Int32} {J : Nat → Nat → Int64} {r : cd_Ret} (h : (if (lg_cmp y1 0) = 0 then (cd_go 100 10 [.ref 2, .long y1, .null] [.int (-1)] (cd_mm L w I J)) else (cd_ci (cd_c 99 [.ref (cd_ple w), .long y1] (cd_mm L w I J))).bind fun q => cd_go 100 10 [.ref 2, .long y1, .null] [.int q.1] q.2) = some r) : cd_go 100 0 [.ref 2, .long y1, .null] [] (cd_mm L w I J) = some r := by
  refine cd_q100_0 ?_
  simp only [cd_zwI, cd_zwL, cd_zI, cd_zJ, cd_zcp, true_and, if_true, cd_zk_2, cd_zR_2_12]
  exact h
set_option maxRecDepth 1000000 in
set_option maxHeartbeats 8000000 in
theorem cd_s100_10 {y1 : Int64} {s0 : Int32} {L : Nat} {w : Bool} {I : Nat → Nat → Int32} {J : Nat → Nat → Int64} {r : cd_Ret} (h : (some (some (.int s0), (cd_mm L w I J))) = some r) : cd_go 100 10 [.ref 2, .long y1, .null] [.int s0] (cd_mm L w I J) = some r := cd_q100_10 h
set_option maxRecDepth 1000000 in
set_option maxHeartbeats 8000000 in
theorem cd_s101_0 {x1 : Int32} {x2 : Int32} {L : Nat} {w : Bool} {I : Nat → Nat → Int32} {J : Nat → Nat → Int64} {r : cd_Ret} (h : ((cd_ci (cd_c 88 [.int x1] (cd_mm L w I J))).bind fun q => cd_go 101 2 [.ref 2, .int x1, .int x2, .null, .null] [.int q.1] q.2) = some r) : cd_go 101 0 [.ref 2, .int x1, .int x2, .null, .null] [] (cd_mm L w I J) = some r := cd_q101_0 h
set_option maxRecDepth 1000000 in
set_option maxHeartbeats 8000000 in
theorem cd_s101_2 {x1 : Int32} {x2 : Int32} {s0 : Int32} {L : Nat} {w : Bool} {I : Nat → Nat → Int32} {J : Nat → Nat → Int64} {r : cd_Ret} (h : (if s0 = 0 then (some (some (.int (-1002)), (cd_mm L w I J))) else if x2 < 0 then (some (some (.int (-1002)), (cd_mm L w I J))) else if 3 < x2 then (some (some (.int (-1002)), (cd_mm L w I J))) else (cd_cl (cd_c 95 [.ref 2, .int x1] (cd_mm L w I J))).bind fun q => cd_go 101 13 [.ref 2, .int x1, .int x2, .null, .null] [.long q.1] q.2) = some r) : cd_go 101 2 [.ref 2, .int x1, .int x2, .null, .null] [.int s0] (cd_mm L w I J) = some r := by
  refine cd_q101_2 ?_
  simp only [cd_zwI, cd_zwL, cd_zI, cd_zJ, cd_zcp, true_and, if_true, cd_zk_2]
  exact h
set_option maxRecDepth 1000000 in
set_option maxHeartbeats 8000000 in
theorem cd_s101_13 {x1 : Int32} {x2 : Int32} {t0 : Int64} {L : Nat} {w : Bool} {I : Nat → Nat → Int32} {J : Nat → Nat → Int64} {r : cd_Ret} (h : (if x2 = 0 then ((cd_ci (cd_c 93 [.long t0] (cd_mm L w I J))).bind fun q => cd_go 101 18 [.ref 2, .int x1, .int x2, .long t0, .null] [.int q.1] q.2) else if x2 = 1 then ((cd_ci (cd_c 96 [.long t0] (cd_mm L w I J))).bind fun q => cd_go 101 21 [.ref 2, .int x1, .int x2, .long t0, .null] [.int q.1] q.2) else if x2 = 2 then ((cd_cl (cd_c 97 [.ref 2] (cd_mm L w I J))).bind fun q => cd_go 101 25 [.ref 2, .int x1, .int x2, .long t0, .null] [.long q.1, .long t0] q.2) else (cd_ci (cd_c 100 [.ref 2, .long t0] (cd_mm L w I J))).bind fun q => cd_go 101 30 [.ref 2, .int x1, .int x2, .long t0, .null] [.int q.1] q.2) = some r) : cd_go 101 13 [.ref 2, .int x1, .int x2, .null, .null] [.long t0] (cd_mm L w I J) = some r := by
  refine cd_q101_13 ?_
  simp only [cd_zwI, cd_zwL, cd_zI, cd_zJ, cd_zcp, true_and, if_true, cd_zk_2]
  exact h
set_option maxRecDepth 1000000 in
set_option maxHeartbeats 8000000 in
theorem cd_s101_18 {x1 : Int32} {x2 : Int32} {y3 : Int64} {s0 : Int32} {L : Nat} {w : Bool} {I : Nat → Nat → Int32} {J : Nat → Nat → Int64} {r : cd_Ret} (h : (some (some (.int s0), (cd_mm L w I J))) = some r) : cd_go 101 18 [.ref 2, .int x1, .int x2, .long y3, .null] [.int s0] (cd_mm L w I J) = some r := cd_q101_18 h
set_option maxRecDepth 1000000 in
set_option maxHeartbeats 8000000 in
theorem cd_s101_21 {x1 : Int32} {x2 : Int32} {y3 : Int64} {s0 : Int32} {L : Nat} {w : Bool} {I : Nat → Nat → Int32} {J : Nat → Nat → Int64} {r : cd_Ret} (h : (some (some (.int s0), (cd_mm L w I J))) = some r) : cd_go 101 21 [.ref 2, .int x1, .int x2, .long y3, .null] [.int s0] (cd_mm L w I J) = some r := cd_q101_21 h
set_option maxRecDepth 1000000 in
set_option maxHeartbeats 8000000 in
theorem cd_s101_25 {x1 : Int32} {x2 : Int32} {y3 : Int64} {t0 : Int64} {t1 : Int64} {L : Nat} {w : Bool} {I : Nat → Nat → Int32} {J : Nat → Nat → Int64} {r : cd_Ret} (h : ((cd_ci (cd_c 98 [.long t0, .long t1] (cd_mm L w I J))).bind fun q => cd_go 101 26 [.ref 2, .int x1, .int x2, .long y3, .null] [.int q.1] q.2) = some r) : cd_go 101 25 [.ref 2, .int x1, .int x2, .long y3, .null] [.long t1, .long t0] (cd_mm L w I J) = some r := cd_q101_25 h
set_option maxRecDepth 1000000 in
set_option maxHeartbeats 8000000 in
theorem cd_s101_26 {x1 : Int32} {x2 : Int32} {y3 : Int64} {s0 : Int32} {L : Nat} {w : Bool} {I : Nat → Nat → Int32} {J : Nat → Nat → Int64} {r : cd_Ret} (h : (some (some (.int s0), (cd_mm L w I J))) = some r) : cd_go 101 26 [.ref 2, .int x1, .int x2, .long y3, .null] [.int s0] (cd_mm L w I J) = some r := cd_q101_26 h
set_option maxRecDepth 1000000 in
set_option maxHeartbeats 8000000 in
theorem cd_s101_30 {x1 : Int32} {x2 : Int32} {y3 : Int64} {s0 : Int32} {L : Nat} {w : Bool} {I : Nat → Nat → Int32} {J : Nat → Nat → Int64} {r : cd_Ret} (h : (some (some (.int s0), (cd_mm L w I J))) = some r) : cd_go 101 30 [.ref 2, .int x1, .int x2, .long y3, .null] [.int s0] (cd_mm L w I J) = some r := cd_q101_30 h
set_option maxRecDepth 1000000 in
set_option maxHeartbeats 8000000 in
theorem cd_s102_0 {x1 : Int32} {L : Nat} {w : Bool} {I : Nat → Nat → Int32} {J : Nat → Nat → Int64} {r : cd_Ret} (h : ((cd_ci (cd_c 88 [.int x1] (cd_mm L w I J))).bind fun q => cd_go 102 2 [.ref 2, .int x1] [.int q.1] q.2) = some r) : cd_go 102 0 [.ref 2, .int x1] [] (cd_mm L w I J) = some r := cd_q102_0 h
set_option maxRecDepth 1000000 in
set_option maxHeartbeats 8000000 in
theorem cd_s102_2 {x1 : Int32} {s0 : Int32} {L : Nat} {w : Bool} {I : Nat → Nat → Int32} {J : Nat → Nat → Int64} {r : cd_Ret} (h : (if s0 = 0 then (some (some (.long (-1002)), (cd_mm L w I J))) else (cd_cl (cd_c 95 [.ref 2, .int x1] (cd_mm L w I J))).bind fun q => cd_go 102 6 [.ref 2, .int x1] [.long q.1] q.2) = some r) : cd_go 102 2 [.ref 2, .int x1] [.int s0] (cd_mm L w I J) = some r := by
  refine cd_q102_2 ?_
  simp only [cd_zwI, cd_zwL, cd_zI, cd_zJ, cd_zcp, true_and, if_true, cd_zk_2]
  exact h
set_option maxRecDepth 1000000 in
set_option maxHeartbeats 8000000 in
theorem cd_s102_6 {x1 : Int32} {t0 : Int64} {L : Nat} {w : Bool} {I : Nat → Nat → Int32} {J : Nat → Nat → Int64} {r : cd_Ret} (h : (some (some (.long t0), (cd_mm L w I J))) = some r) : cd_go 102 6 [.ref 2, .int x1] [.long t0] (cd_mm L w I J) = some r := cd_q102_6 h
set_option maxRecDepth 1000000 in
set_option maxHeartbeats 8000000 in
theorem cd_s103_0 {y0 : Int64} {L : Nat} {w : Bool} {I : Nat → Nat → Int32} {J : Nat → Nat → Int64} {r : cd_Ret} (h : (cd_go 103 6 [.long y0, .null, .int 0, .long y0, .null, .int 0] [] (cd_mm L w I J)) = some r) : cd_go 103 0 [.long y0, .null, .null, .null, .null, .null] [] (cd_mm L w I J) = some r := cd_q103_0 h
set_option maxRecDepth 1000000 in
set_option maxHeartbeats 8000000 in
theorem cd_s103_6 {y0 : Int64} {x2 : Int32} {y3 : Int64} {x5 : Int32} {L : Nat} {w : Bool} {I : Nat → Nat → Int32} {J : Nat → Nat → Int64} {r : cd_Ret} (h : (if x5 < 64 then (if (lg_cmp y3 0) = 0 then (some (some (.int x2), (cd_mm L w I J))) else (cd_cl (cd_c 92 [.long y3] (cd_mm L w I J))).bind fun q => cd_go 103 16 [.long y0, .null, .int x2, .long y3, .null, .int x5] [.long q.1, .long y3] q.2) else some (some (.int x2), (cd_mm L w I J))) = some r) : cd_go 103 6 [.long y0, .null, .int x2, .long y3, .null, .int x5] [] (cd_mm L w I J) = some r := cd_q103_6 h
set_option maxRecDepth 1000000 in
set_option maxHeartbeats 8000000 in
theorem cd_s103_16 {y0 : Int64} {x2 : Int32} {y3 : Int64} {x5 : Int32} {t0 : Int64} {t1 : Int64} {L : Nat} {w : Bool} {I : Nat → Nat → Int32} {J : Nat → Nat → Int64} {r : cd_Ret} (h : (cd_go 103 6 [.long y0, .null, .int (x2 + 1), .long (t0 &&& (t1 ^^^ (-1))), .null, .int (x5 + 1)] [] (cd_mm L w I J)) = some r) : cd_go 103 16 [.long y0, .null, .int x2, .long y3, .null, .int x5] [.long t1, .long t0] (cd_mm L w I J) = some r := cd_q103_16 h
set_option maxRecDepth 1000000 in
set_option maxHeartbeats 8000000 in
theorem cd_s104_0 {x1 : Int32} {L : Nat} {w : Bool} {I : Nat → Nat → Int32} {J : Nat → Nat → Int64} {r : cd_Ret} (h : ((cd_ci (cd_c 88 [.int x1] (cd_mm L w I J))).bind fun q => cd_go 104 2 [.ref 2, .int x1] [.int q.1] q.2) = some r) : cd_go 104 0 [.ref 2, .int x1] [] (cd_mm L w I J) = some r := cd_q104_0 h
set_option maxRecDepth 1000000 in
set_option maxHeartbeats 8000000 in
theorem cd_s104_2 {x1 : Int32} {s0 : Int32} {L : Nat} {w : Bool} {I : Nat → Nat → Int32} {J : Nat → Nat → Int64} {r : cd_Ret} (h : (if s0 = 0 then (some (some (.int (-1002)), (cd_mm L w I J))) else (cd_cv (cd_c 53 [.ref 38, .ref (cd_ple w), .ref 45] (cd_mm L w I J))).bind fun m => cd_go 104 12 [.ref 2, .int x1] [] m) = some r) : cd_go 104 2 [.ref 2, .int x1] [.int s0] (cd_mm L w I J) = some r := by
  refine cd_q104_2 ?_
  simp only [cd_zwI, cd_zwL, cd_zI, cd_zJ, cd_zcp, true_and, if_true, cd_zk_2, cd_zR_2_4, cd_zR_2_12, cd_zR_2_6, cd_zk_38]
  exact h
set_option maxRecDepth 1000000 in
set_option maxHeartbeats 8000000 in
theorem cd_s104_12 {x1 : Int32} {L : Nat} {w : Bool} {I : Nat → Nat → Int32} {J : Nat → Nat → Int64} {r : cd_Ret} (h : ((cd_cl (cd_c 90 [.ref 38, .ref (cd_ple w), .ref 45, .int x1] (cd_mm L w I J))).bind fun q => cd_go 104 20 [.ref 2, .int x1] [.long q.1] q.2) = some r) : cd_go 104 12 [.ref 2, .int x1] [] (cd_mm L w I J) = some r := by
  refine cd_q104_12 ?_
  simp only [cd_zwI, cd_zwL, cd_zI, cd_zJ, cd_zcp, true_and, if_true, cd_zk_2, cd_zR_2_4, cd_zR_2_12, cd_zR_2_6, cd_zk_38]
  exact h
set_option maxRecDepth 1000000 in
set_option maxHeartbeats 8000000 in
theorem cd_s104_20 {x1 : Int32} {t0 : Int64} {L : Nat} {w : Bool} {I : Nat → Nat → Int32} {J : Nat → Nat → Int64} {r : cd_Ret} (h : ((cd_ci (cd_c 103 [.long t0] (cd_mm L w I J))).bind fun q => cd_go 104 21 [.ref 2, .int x1] [.int q.1] q.2) = some r) : cd_go 104 20 [.ref 2, .int x1] [.long t0] (cd_mm L w I J) = some r := cd_q104_20 h
set_option maxRecDepth 1000000 in
set_option maxHeartbeats 8000000 in
theorem cd_s104_21 {x1 : Int32} {s0 : Int32} {L : Nat} {w : Bool} {I : Nat → Nat → Int32} {J : Nat → Nat → Int64} {r : cd_Ret} (h : (some (some (.int s0), (cd_mm L w I J))) = some r) : cd_go 104 21 [.ref 2, .int x1] [.int s0] (cd_mm L w I J) = some r := cd_q104_21 h
set_option maxRecDepth 1000000 in
set_option maxHeartbeats 8000000 in
theorem cd_s105_0 {x1 : Int32} {L : Nat} {w : Bool} {I : Nat → Nat → Int32} {J : Nat → Nat → Int64} {r : cd_Ret} (h : ((cd_ci (cd_c 69 [.ref 2, .int x1] (cd_mm L w I J))).bind fun q => cd_go 105 3 [.ref 2, .int x1] [.int q.1] q.2) = some r) : cd_go 105 0 [.ref 2, .int x1] [] (cd_mm L w I J) = some r := by
  refine cd_q105_0 ?_
  simp only [cd_zwI, cd_zwL, cd_zI, cd_zJ, cd_zcp, true_and, if_true, cd_zk_2]
  exact h
set_option maxRecDepth 1000000 in
set_option maxHeartbeats 8000000 in
theorem cd_s105_3 {x1 : Int32} {s0 : Int32} {L : Nat} {w : Bool} {I : Nat → Nat → Int32} {J : Nat → Nat → Int64} {r : cd_Ret} (h : (if s0 = 0 then (some (some (.int (-1001)), (cd_mm L w I J))) else (cd_ci (cd_c 99 [.ref (cd_ple w), .long ((1 : Int64) <<< (x1.toInt64 &&& 63))] (cd_mm L w I J))).bind fun q => cd_go 105 10 [.ref 2, .int x1] [.int q.1] q.2) = some r) : cd_go 105 3 [.ref 2, .int x1] [.int s0] (cd_mm L w I J) = some r := by
  refine cd_q105_3 ?_
  simp only [cd_zwI, cd_zwL, cd_zI, cd_zJ, cd_zcp, true_and, if_true, cd_zk_2, cd_zR_2_12]
  exact h
set_option maxRecDepth 1000000 in
set_option maxHeartbeats 8000000 in
theorem cd_s105_10 {x1 : Int32} {s0 : Int32} {L : Nat} {w : Bool} {I : Nat → Nat → Int32} {J : Nat → Nat → Int64} {r : cd_Ret} (h : (some (some (.int s0), (cd_mm L w I J))) = some r) : cd_go 105 10 [.ref 2, .int x1] [.int s0] (cd_mm L w I J) = some r := cd_q105_10 h
set_option maxRecDepth 1000000 in
set_option maxHeartbeats 8000000 in
theorem cd_s106_0 {x0 : Int32} {x1 : Int32} {x2 : Int32} {L : Nat} {w : Bool} {I : Nat → Nat → Int32} {J : Nat → Nat → Int64} {r : cd_Ret} (h : (cd_go 106 6 [.int x0, .int x1, .int x2, .int 0, .int x1, .int 0] [] (cd_mm L w I J)) = some r) : cd_go 106 0 [.int x0, .int x1, .int x2, .null, .null, .null] [] (cd_mm L w I J) = some r := cd_q106_0 h
set_option maxRecDepth 1000000 in
set_option maxHeartbeats 8000000 in
theorem cd_s106_6 {x0 : Int32} {x1 : Int32} {x2 : Int32} {x3 : Int32} {x4 : Int32} {x5 : Int32} {L : Nat} {w : Bool} {I : Nat → Nat → Int32} {J : Nat → Nat → Int64} {r : cd_Ret} (h : (if x5 < x2 then (if (x4 - x4 / 3 * 3) = x0 then (cd_go 106 6 [.int x0, .int x1, .int x2, .int (x3 + 1), .int (x4 / 3), .int (x5 + 1)] [] (cd_mm L w I J)) else cd_go 106 6 [.int x0, .int x1, .int x2, .int (x3 + 0), .int (x4 / 3), .int (x5 + 1)] [] (cd_mm L w I J)) else some (some (.int x3), (cd_mm L w I J))) = some r) : cd_go 106 6 [.int x0, .int x1, .int x2, .int x3, .int x4, .int x5] [] (cd_mm L w I J) = some r := cd_q106_6 h
set_option maxRecDepth 1000000 in
set_option maxHeartbeats 8000000 in
theorem cd_s107_0 {p : Nat} (hp : p = 66 ∨ p = 83) {L : Nat} {w : Bool} {I : Nat → Nat → Int32} {J : Nat → Nat → Int64} {r : cd_Ret} (h : ((cd_cv (cd_c 39 [.ref 22, .ref 45] (cd_mm L w I J))).bind fun m => cd_go 107 4 [.ref 21, .ref p, .ref 45, .null] [] m) = some r) : cd_go 107 0 [.ref 21, .ref p, .ref 45, .null] [] (cd_mm L w I J) = some r := by
  refine cd_q107_0 ?_
  simp only [cd_zwI, cd_zwL, cd_zI, cd_zJ, cd_zcp, true_and, if_true, cd_zk_21, cd_zR_21_0, cd_zk_22]
  exact h
set_option maxRecDepth 1000000 in
set_option maxHeartbeats 8000000 in
theorem cd_s107_4 {p : Nat} (hp : p = 66 ∨ p = 83) {L : Nat} {w : Bool} {I : Nat → Nat → Int32} {J : Nat → Nat → Int64} {r : cd_Ret} (h : (cd_go 107 10 [.ref 21, .ref p, .ref 45, .int 0] [] (cd_mm L w (cd_up I 22 2 0) J)) = some r) : cd_go 107 4 [.ref 21, .ref p, .ref 45, .null] [] (cd_mm L w I J) = some r := by
  refine cd_q107_4 ?_
  simp only [cd_zwI, cd_zwL, cd_zI, cd_zJ, cd_zcp, true_and, if_true, cd_zk_21, cd_zR_21_0, cd_zk_22]
  exact h
set_option maxRecDepth 1000000 in
set_option maxHeartbeats 8000000 in
theorem cd_s107_10 {x3 : Int32} {p : Nat} (hp : p = 66 ∨ p = 83) {L : Nat} {w : Bool} {I : Nat → Nat → Int32} {J : Nat → Nat → Int64} {r : cd_Ret} (h : (if x3 < (I p 2) then ((cd_ci (cd_c 30 [.ref p, .ref 45, .int x3] (cd_mm L w I J))).bind fun q => cd_go 107 18 [.ref 21, .ref p, .ref 45, .int x3] [.int q.1] q.2) else some (none, (cd_mm L w I J))) = some r) : cd_go 107 10 [.ref 21, .ref p, .ref 45, .int x3] [] (cd_mm L w I J) = some r := by
  refine cd_q107_10 ?_
  simp only [cd_zwI, cd_zwL, cd_zI, cd_zJ, cd_zcp, true_and, if_true, cd_zk_p0_66_83 hp]
  exact h
set_option maxRecDepth 1000000 in
set_option maxHeartbeats 8000000 in
theorem cd_s107_18 {x3 : Int32} {s0 : Int32} {p : Nat} (hp : p = 66 ∨ p = 83) {L : Nat} {w : Bool} {I : Nat → Nat → Int32} {J : Nat → Nat → Int64} {r : cd_Ret} (h : (if s0 = 0 then (cd_go 107 10 [.ref 21, .ref p, .ref 45, .int (x3 + 1)] [] (cd_mm L w I J)) else cd_go 107 10 [.ref 21, .ref p, .ref 45, .int (x3 + 1)] [] (cd_mm L w (cd_up I 22 2 ((I 22 2) ||| ((1 : Int32) <<< (x3 &&& 31)))) J)) = some r) : cd_go 107 18 [.ref 21, .ref p, .ref 45, .int x3] [.int s0] (cd_mm L w I J) = some r := by
  refine cd_q107_18 ?_
  simp only [cd_zwI, cd_zwL, cd_zI, cd_zJ, cd_zcp, true_and, if_true, cd_zk_21, cd_zR_21_0, cd_zk_22]
  exact h
set_option maxRecDepth 1000000 in
set_option maxHeartbeats 8000000 in
theorem cd_s108_0 {x3 : Int32} {p : Nat} (hp : p = 66 ∨ p = 83) {L : Nat} {w : Bool} {I : Nat → Nat → Int32} {J : Nat → Nat → Int64} {r : cd_Ret} (h : ((cd_cv (cd_c 107 [.ref 21, .ref p, .ref 45] (cd_mm L w I J))).bind fun m => cd_go 108 4 [.ref 21, .ref p, .ref 45, .int x3, .null, .null, .null] [] m) = some r) : cd_go 108 0 [.ref 21, .ref p, .ref 45, .int x3, .null, .null, .null] [] (cd_mm L w I J) = some r := by
  refine cd_q108_0 ?_
  simp only [cd_zwI, cd_zwL, cd_zI, cd_zJ, cd_zcp, true_and, if_true, cd_zk_21]
  exact h
set_option maxRecDepth 1000000 in
set_option maxHeartbeats 8000000 in
theorem cd_s108_4 {x3 : Int32} {p : Nat} (hp : p = 66 ∨ p = 83) {L : Nat} {w : Bool} {I : Nat → Nat → Int32} {J : Nat → Nat → Int64} {r : cd_Ret} (h : (cd_go 108 11 [.ref 21, .ref p, .ref 45, .int x3, .int x3, .int ((I p 2) - 1), .null] [] (cd_mm L w I J)) = some r) : cd_go 108 4 [.ref 21, .ref p, .ref 45, .int x3, .null, .null, .null] [] (cd_mm L w I J) = some r := by
  refine cd_q108_4 ?_
  simp only [cd_zwI, cd_zwL, cd_zI, cd_zJ, cd_zcp, true_and, if_true, cd_zk_p0_66_83 hp]
  exact h
set_option maxRecDepth 1000000 in
set_option maxHeartbeats 8000000 in
theorem cd_s108_11 {x3 : Int32} {x4 : Int32} {x5 : Int32} {w6 : Value} {p : Nat} (hp : p = 66 ∨ p = 83) {L : Nat} {w : Bool} {I : Nat → Nat → Int32} {J : Nat → Nat → Int64} {r : cd_Ret} (h : (if x5 < 0 then (some (none, (cd_mm L w I J))) else if (x4 - x4 / 3 * 3) = 2 then ((cd_cv (cd_c 32 [.ref 22, .int x5, .int (x4 - x4 / 3 * 3), .int 20] (cd_mm L w I J))).bind fun m => cd_go 108 28 [.ref 21, .ref p, .ref 45, .int x3, .int x4, .int x5, .int (x4 - x4 / 3 * 3)] [] m) else (cd_cv (cd_c 32 [.ref 22, .int x5, .int (x4 - x4 / 3 * 3), .int 0] (cd_mm L w I J))).bind fun m => cd_go 108 28 [.ref 21, .ref p, .ref 45, .int x3, .int x4, .int x5, .int (x4 - x4 / 3 * 3)] [] m) = some r) : cd_go 108 11 [.ref 21, .ref p, .ref 45, .int x3, .int x4, .int x5, w6] [] (cd_mm L w I J) = some r := by
  refine cd_q108_11 ?_
  simp only [cd_zwI, cd_zwL, cd_zI, cd_zJ, cd_zcp, true_and, if_true, cd_zk_21, cd_zR_21_0, cd_zk_22]
  exact h
set_option maxRecDepth 1000000 in
set_option maxHeartbeats 8000000 in
theorem cd_s108_28 {x3 : Int32} {x4 : Int32} {x5 : Int32} {x6 : Int32} {p : Nat} (hp : p = 66 ∨ p = 83) {L : Nat} {w : Bool} {I : Nat → Nat → Int32} {J : Nat → Nat → Int64} {r : cd_Ret} (h : (cd_go 108 11 [.ref 21, .ref p, .ref 45, .int x3, .int (x4 / 3), .int (x5 + (-1)), .int x6] [] (cd_mm L w I J)) = some r) : cd_go 108 28 [.ref 21, .ref p, .ref 45, .int x3, .int x4, .int x5, .int x6] [] (cd_mm L w I J) = some r := cd_q108_28 h
set_option maxRecDepth 1000000 in
set_option maxHeartbeats 8000000 in
theorem cd_s109_0 {x3 : Int32} {p : Nat} (hp : p = 66 ∨ p = 83) {s : Nat} (hs : s = 22 ∨ s = 45) {L : Nat} {w : Bool} {I : Nat → Nat → Int32} {J : Nat → Nat → Int64} {r : cd_Ret} (h : ((cd_ci (cd_c 58 [.ref 6, .ref p, .ref s] (cd_mm L w I J))).bind fun q => cd_go 109 4 [.ref 6, .ref p, .ref s, .int x3, .null] [.int q.1] q.2) = some r) : cd_go 109 0 [.ref 6, .ref p, .ref s, .int x3, .null] [] (cd_mm L w I J) = some r := by
  refine cd_q109_0 ?_
  simp only [cd_zwI, cd_zwL, cd_zI, cd_zJ, cd_zcp, true_and, if_true, cd_zk_6]
  exact h
set_option maxRecDepth 1000000 in
set_option maxHeartbeats 8000000 in
theorem cd_s109_4 {x3 : Int32} {s0 : Int32} {p : Nat} (hp : p = 66 ∨ p = 83) {s : Nat} (hs : s = 22 ∨ s = 45) {L : Nat} {w : Bool} {I : Nat → Nat → Int32} {J : Nat → Nat → Int64} {r : cd_Ret} (h : (if cd_in s0 256 = true then (if (I 12 s0.toNatClampNeg) = x3 then (if cd_in s0 256 = true then (some (some (.int (I 13 s0.toNatClampNeg)), (cd_mm L w I J))) else none) else (cd_cv (cd_c 53 [.ref 14, .ref p, .ref s] (cd_mm L w I J))).bind fun m => cd_go 109 16 [.ref 6, .ref p, .ref s, .int x3, .int s0] [] m) else none) = some r) : cd_go 109 4 [.ref 6, .ref p, .ref s, .int x3, .null] [.int s0] (cd_mm L w I J) = some r := by
  refine cd_q109_4 ?_
  simp only [cd_zwI, cd_zwL, cd_zI, cd_zJ, cd_zcp, true_and, if_true, cd_zk_6, cd_zR_6_5, cd_zk_12, cd_zn_12, cd_zR_6_6, cd_zk_13, cd_zn_13, cd_zR_6_7, cd_zk_14]
  exact h
set_option maxRecDepth 1000000 in
set_option maxHeartbeats 8000000 in
theorem cd_s109_16 {x3 : Int32} {x4 : Int32} {p : Nat} (hp : p = 66 ∨ p = 83) {s : Nat} (hs : s = 22 ∨ s = 45) {L : Nat} {w : Bool} {I : Nat → Nat → Int32} {J : Nat → Nat → Int64} {r : cd_Ret} (h : ((cd_cl (cd_c 90 [.ref 14, .ref p, .ref s, .int x3] (cd_mm L w I J))).bind fun q => cd_go 109 25 [.ref 6, .ref p, .ref s, .int x3, .int x4] [.long q.1, .int x4, .ref 13] q.2) = some r) : cd_go 109 16 [.ref 6, .ref p, .ref s, .int x3, .int x4] [] (cd_mm L w I J) = some r := by
  refine cd_q109_16 ?_
  simp only [cd_zwI, cd_zwL, cd_zI, cd_zJ, cd_zcp, true_and, if_true, cd_zk_6, cd_zR_6_6, cd_zR_6_7, cd_zk_14]
  exact h
set_option maxRecDepth 1000000 in
set_option maxHeartbeats 8000000 in
theorem cd_s109_25 {x3 : Int32} {x4 : Int32} {s1 : Int32} {t2 : Int64} {p : Nat} (hp : p = 66 ∨ p = 83) {s : Nat} (hs : s = 22 ∨ s = 45) {L : Nat} {w : Bool} {I : Nat → Nat → Int32} {J : Nat → Nat → Int64} {r : cd_Ret} (h : ((cd_cl (cd_c 94 [.long t2] (cd_mm L w I J))).bind fun q => cd_go 109 26 [.ref 6, .ref p, .ref s, .int x3, .int x4] [.long q.1, .int s1, .ref 13] q.2) = some r) : cd_go 109 25 [.ref 6, .ref p, .ref s, .int x3, .int x4] [.long t2, .int s1, .ref 13] (cd_mm L w I J) = some r := cd_q109_25 h
set_option maxRecDepth 1000000 in
set_option maxHeartbeats 8000000 in
theorem cd_s109_26 {x3 : Int32} {x4 : Int32} {s1 : Int32} {t2 : Int64} {p : Nat} (hp : p = 66 ∨ p = 83) {s : Nat} (hs : s = 22 ∨ s = 45) {L : Nat} {w : Bool} {I : Nat → Nat → Int32} {J : Nat → Nat → Int64} {r : cd_Ret} (h : ((cd_ci (cd_c 93 [.long t2] (cd_mm L w I J))).bind fun q => cd_go 109 27 [.ref 6, .ref p, .ref s, .int x3, .int x4] [.int q.1, .int s1, .ref 13] q.2) = some r) : cd_go 109 26 [.ref 6, .ref p, .ref s, .int x3, .int x4] [.long t2, .int s1, .ref 13] (cd_mm L w I J) = some r := cd_q109_26 h
set_option maxRecDepth 1000000 in
set_option maxHeartbeats 8000000 in
theorem cd_s109_27 {x3 : Int32} {x4 : Int32} {s1 : Int32} {s2 : Int32} {p : Nat} (hp : p = 66 ∨ p = 83) {s : Nat} (hs : s = 22 ∨ s = 45) {L : Nat} {w : Bool} {I : Nat → Nat → Int32} {J : Nat → Nat → Int64} {r : cd_Ret} (h : (if cd_in s1 256 = true then (if cd_in x4 256 = true then (if cd_in x4 256 = true then (some (some (.int ((cd_up (cd_up I 13 s1.toNatClampNeg s2) 12 x4.toNatClampNeg x3) 13 x4.toNatClampNeg)), (cd_mm L w (cd_up (cd_up I 13 s1.toNatClampNeg s2) 12 x4.toNatClampNeg x3) J))) else none) else none) else none) = some r) : cd_go 109 27 [.ref 6, .ref p, .ref s, .int x3, .int x4] [.int s2, .int s1, .ref 13] (cd_mm L w I J) = some r := by
  refine cd_q109_27 ?_
  simp only [cd_zwI, cd_zwL, cd_zI, cd_zJ, cd_zcp, true_and, if_true, cd_zk_13, cd_zn_13, cd_zk_6, cd_zR_6_5, cd_zk_12, cd_zn_12, cd_zR_6_6]
  exact h
set_option maxRecDepth 1000000 in
set_option maxHeartbeats 8000000 in
theorem cd_s110_0 {x4 : Int32} {x5 : Int32} {x6 : Int32} {p : Nat} (hp : p = 66 ∨ p = 83) {L : Nat} {w : Bool} {I : Nat → Nat → Int32} {J : Nat → Nat → Int64} {r : cd_Ret} (h : ((cd_cl (cd_c 50 [.ref 45, .int (I p 0)] (cd_mm L w I J))).bind fun q => cd_go 110 4 [.ref 21, .ref 5, .ref p, .ref 45, .int x4, .int x5, .int x6, .null, .null, .null, .null, .null] [.long q.1] q.2) = some r) : cd_go 110 0 [.ref 21, .ref 5, .ref p, .ref 45, .int x4, .int x5, .int x6, .null, .null, .null, .null, .null] [] (cd_mm L w I J) = some r := by
  refine cd_q110_0 ?_
  simp only [cd_zwI, cd_zwL, cd_zI, cd_zJ, cd_zcp, true_and, if_true, cd_zk_p0_66_83 hp, cd_zk_45]
  exact h
set_option maxRecDepth 1000000 in
set_option maxHeartbeats 8000000 in
theorem cd_s110_4 {x4 : Int32} {x5 : Int32} {x6 : Int32} {t0 : Int64} {p : Nat} (hp : p = 66 ∨ p = 83) {L : Nat} {w : Bool} {I : Nat → Nat → Int32} {J : Nat → Nat → Int64} {r : cd_Ret} (h : (if (I 21 8) = 0 then (cd_go 110 33 [.ref 21, .ref 5, .ref p, .ref 45, .int x4, .int x5, .int x6, .long t0, .null, .int 1, .int 0, .null] [] (cd_mm L w (cd_up I 21 6 (-1)) J)) else if (lg_cmp (J 21 9) t0) = 0 then (if (I 21 10) = x4 then (if (I 21 11) = x5 then (if (I 21 12) = x6 then (some (none, (cd_mm L w I J))) else cd_go 110 33 [.ref 21, .ref 5, .ref p, .ref 45, .int x4, .int x5, .int x6, .long t0, .null, .int 1, .int 0, .null] [] (cd_mm L w (cd_up I 21 6 (-1)) J)) else cd_go 110 33 [.ref 21, .ref 5, .ref p, .ref 45, .int x4, .int x5, .int x6, .long t0, .null, .int 1, .int 0, .null] [] (cd_mm L w (cd_up I 21 6 (-1)) J)) else cd_go 110 33 [.ref 21, .ref 5, .ref p, .ref 45, .int x4, .int x5, .int x6, .long t0, .null, .int 1, .int 0, .null] [] (cd_mm L w (cd_up I 21 6 (-1)) J)) else cd_go 110 33 [.ref 21, .ref 5, .ref p, .ref 45, .int x4, .int x5, .int x6, .long t0, .null, .int 1, .int 0, .null] [] (cd_mm L w (cd_up I 21 6 (-1)) J)) = some r) : cd_go 110 4 [.ref 21, .ref 5, .ref p, .ref 45, .int x4, .int x5, .int x6, .null, .null, .null, .null, .null] [.long t0] (cd_mm L w I J) = some r := by
  refine cd_q110_4 ?_
  simp only [cd_zwI, cd_zwL, cd_zI, cd_zJ, cd_zcp, true_and, if_true, cd_zk_21]
  exact h
set_option maxRecDepth 1000000 in
set_option maxHeartbeats 8000000 in
theorem cd_s110_33 {x4 : Int32} {x5 : Int32} {x6 : Int32} {y7 : Int64} {x9 : Int32} {x10 : Int32} {p : Nat} (hp : p = 66 ∨ p = 83) {L : Nat} {w : Bool} {I : Nat → Nat → Int32} {J : Nat → Nat → Int64} {r : cd_Ret} (h : (if x10 < (I p 2) then (if x10 < 7 then (cd_go 110 33 [.ref 21, .ref 5, .ref p, .ref 45, .int x4, .int x5, .int x6, .long y7, .null, .int (x9 * 3), .int (x10 + 1), .null] [] (cd_mm L w I J)) else cd_go 110 48 [.ref 21, .ref 5, .ref p, .ref 45, .int x4, .int x5, .int x6, .long y7, .null, .int x9, .int 0, .null] [] (cd_mm L w I J)) else cd_go 110 48 [.ref 21, .ref 5, .ref p, .ref 45, .int x4, .int x5, .int x6, .long y7, .null, .int x9, .int 0, .null] [] (cd_mm L w I J)) = some r) : cd_go 110 33 [.ref 21, .ref 5, .ref p, .ref 45, .int x4, .int x5, .int x6, .long y7, .null, .int x9, .int x10, .null] [] (cd_mm L w I J) = some r := by
  refine cd_q110_33 ?_
  simp only [cd_zwI, cd_zwL, cd_zI, cd_zJ, cd_zcp, true_and, if_true, cd_zk_p0_66_83 hp]
  exact h
set_option maxRecDepth 1000000 in
set_option maxHeartbeats 8000000 in
theorem cd_s110_48 {x4 : Int32} {x5 : Int32} {x6 : Int32} {y7 : Int64} {x9 : Int32} {x10 : Int32} {w11 : Value} {p : Nat} (hp : p = 66 ∨ p = 83) {L : Nat} {w : Bool} {I : Nat → Nat → Int32} {J : Nat → Nat → Int64} {r : cd_Ret} (h : (if x10 < x9 then ((cd_ci (cd_c 106 [.int 1, .int x10, .int (I p 2)] (cd_mm L w I J))).bind fun q => cd_go 110 56 [.ref 21, .ref 5, .ref p, .ref 45, .int x4, .int x5, .int x6, .long y7, .null, .int x9, .int x10, w11] [.int q.1] q.2) else some (none, (cd_mm L w (cd_up (cd_up (cd_up (cd_up I 21 8 1) 21 10 x4) 21 11 x5) 21 12 x6) (cd_up J 21 9 y7)))) = some r) : cd_go 110 48 [.ref 21, .ref 5, .ref p, .ref 45, .int x4, .int x5, .int x6, .long y7, .null, .int x9, .int x10, w11] [] (cd_mm L w I J) = some r := by
  refine cd_q110_48 ?_
  simp only [cd_zwI, cd_zwL, cd_zI, cd_zJ, cd_zcp, true_and, if_true, cd_zk_p0_66_83 hp, cd_zk_21]
  exact h
set_option maxRecDepth 1000000 in
set_option maxHeartbeats 8000000 in
theorem cd_s110_56 {x4 : Int32} {x5 : Int32} {x6 : Int32} {y7 : Int64} {x9 : Int32} {x10 : Int32} {w11 : Value} {s0 : Int32} {p : Nat} (hp : p = 66 ∨ p = 83) {L : Nat} {w : Bool} {I : Nat → Nat → Int32} {J : Nat → Nat → Int64} {r : cd_Ret} (h : (if x5 < s0 then (cd_go 110 48 [.ref 21, .ref 5, .ref p, .ref 45, .int x4, .int x5, .int x6, .long y7, .null, .int x9, .int (x10 + 1), w11] [] (cd_mm L w I J)) else (cd_ci (cd_c 106 [.int 2, .int x10, .int (I p 2)] (cd_mm L w I J))).bind fun q => cd_go 110 63 [.ref 21, .ref 5, .ref p, .ref 45, .int x4, .int x5, .int x6, .long y7, .null, .int x9, .int x10, w11] [.int q.1] q.2) = some r) : cd_go 110 56 [.ref 21, .ref 5, .ref p, .ref 45, .int x4, .int x5, .int x6, .long y7, .null, .int x9, .int x10, w11] [.int s0] (cd_mm L w I J) = some r := by
  refine cd_q110_56 ?_
  simp only [cd_zwI, cd_zwL, cd_zI, cd_zJ, cd_zcp, true_and, if_true, cd_zk_p0_66_83 hp]
  exact h
set_option maxRecDepth 1000000 in
set_option maxHeartbeats 8000000 in
theorem cd_s110_63 {x4 : Int32} {x5 : Int32} {x6 : Int32} {y7 : Int64} {x9 : Int32} {x10 : Int32} {w11 : Value} {s0 : Int32} {p : Nat} (hp : p = 66 ∨ p = 83) {L : Nat} {w : Bool} {I : Nat → Nat → Int32} {J : Nat → Nat → Int64} {r : cd_Ret} (h : (if x6 < s0 then (cd_go 110 48 [.ref 21, .ref 5, .ref p, .ref 45, .int x4, .int x5, .int x6, .long y7, .null, .int x9, .int (x10 + 1), w11] [] (cd_mm L w I J)) else (cd_cv (cd_c 108 [.ref 21, .ref p, .ref 45, .int x10] (cd_mm L w I J))).bind fun m => cd_go 110 70 [.ref 21, .ref 5, .ref p, .ref 45, .int x4, .int x5, .int x6, .long y7, .null, .int x9, .int x10, w11] [] m) = some r) : cd_go 110 63 [.ref 21, .ref 5, .ref p, .ref 45, .int x4, .int x5, .int x6, .long y7, .null, .int x9, .int x10, w11] [.int s0] (cd_mm L w I J) = some r := by
  refine cd_q110_63 ?_
  simp only [cd_zwI, cd_zwL, cd_zI, cd_zJ, cd_zcp, true_and, if_true, cd_zk_21]
  exact h
set_option maxRecDepth 1000000 in
set_option maxHeartbeats 8000000 in
theorem cd_s110_70 {x4 : Int32} {x5 : Int32} {x6 : Int32} {y7 : Int64} {x9 : Int32} {x10 : Int32} {w11 : Value} {p : Nat} (hp : p = 66 ∨ p = 83) {L : Nat} {w : Bool} {I : Nat → Nat → Int32} {J : Nat → Nat → Int64} {r : cd_Ret} (h : ((cd_cv (cd_c 82 [.ref 5, .ref p, .ref 22, .int (-1), .int 0, .ref 26] (cd_mm L w I J))).bind fun m => cd_go 110 79 [.ref 21, .ref 5, .ref p, .ref 45, .int x4, .int x5, .int x6, .long y7, .null, .int x9, .int x10, w11] [] m) = some r) : cd_go 110 70 [.ref 21, .ref 5, .ref p, .ref 45, .int x4, .int x5, .int x6, .long y7, .null, .int x9, .int x10, w11] [] (cd_mm L w I J) = some r := by
  refine cd_q110_70 ?_
  simp only [cd_zwI, cd_zwL, cd_zI, cd_zJ, cd_zcp, true_and, if_true, cd_zk_21, cd_zR_21_0, cd_zR_21_1, cd_zk_5]
  exact h
set_option maxRecDepth 1000000 in
set_option maxHeartbeats 8000000 in
theorem cd_s110_79 {x4 : Int32} {x5 : Int32} {x6 : Int32} {y7 : Int64} {x9 : Int32} {x10 : Int32} {w11 : Value} {p : Nat} (hp : p = 66 ∨ p = 83) {L : Nat} {w : Bool} {I : Nat → Nat → Int32} {J : Nat → Nat → Int64} {r : cd_Ret} (h : ((cd_ci (cd_c 109 [.ref 6, .ref p, .ref 22, .int x4] (cd_mm L w I J))).bind fun q => cd_go 110 86 [.ref 21, .ref 5, .ref p, .ref 45, .int x4, .int x5, .int x6, .long y7, .null, .int x9, .int x10, w11] [.int q.1] q.2) = some r) : cd_go 110 79 [.ref 21, .ref 5, .ref p, .ref 45, .int x4, .int x5, .int x6, .long y7, .null, .int x9, .int x10, w11] [] (cd_mm L w I J) = some r := by
  refine cd_q110_79 ?_
  simp only [cd_zwI, cd_zwL, cd_zI, cd_zJ, cd_zcp, true_and, if_true, cd_zk_5, cd_zR_5_0, cd_zk_21, cd_zR_21_0, cd_zk_6]
  exact h
set_option maxRecDepth 1000000 in
set_option maxHeartbeats 8000000 in
theorem cd_s110_86 {x4 : Int32} {x5 : Int32} {x6 : Int32} {y7 : Int64} {x9 : Int32} {x10 : Int32} {w11 : Value} {s0 : Int32} {p : Nat} (hp : p = 66 ∨ p = 83) {L : Nat} {w : Bool} {I : Nat → Nat → Int32} {J : Nat → Nat → Int64} {r : cd_Ret} (h : (if (I 21 6) < s0 then (cd_go 110 48 [.ref 21, .ref 5, .ref p, .ref 45, .int x4, .int x5, .int x6, .long y7, .null, .int x9, .int (x10 + 1), .int s0] [] (cd_mm L w (cd_up (cd_up I 21 6 s0) 21 7 x10) J)) else cd_go 110 48 [.ref 21, .ref 5, .ref p, .ref 45, .int x4, .int x5, .int x6, .long y7, .null, .int x9, .int (x10 + 1), .int s0] [] (cd_mm L w I J)) = some r) : cd_go 110 86 [.ref 21, .ref 5, .ref p, .ref 45, .int x4, .int x5, .int x6, .long y7, .null, .int x9, .int x10, w11] [.int s0] (cd_mm L w I J) = some r := by
  refine cd_q110_86 ?_
  simp only [cd_zwI, cd_zwL, cd_zI, cd_zJ, cd_zcp, true_and, if_true, cd_zk_21]
  exact h
set_option maxRecDepth 1000000 in
set_option maxHeartbeats 8000000 in
theorem cd_s111_0 {x0 : Int32} {x1 : Int32} {x2 : Int32} {L : Nat} {w : Bool} {I : Nat → Nat → Int32} {J : Nat → Nat → Int64} {r : cd_Ret} (h : (cd_go 111 6 [.int x0, .int x1, .int x2, .int x0, .int (x2 - 1)] [] (cd_mm L w I J)) = some r) : cd_go 111 0 [.int x0, .int x1, .int x2, .null, .null] [] (cd_mm L w I J) = some r := cd_q111_0 h
set_option maxRecDepth 1000000 in
set_option maxHeartbeats 8000000 in
theorem cd_s111_6 {x0 : Int32} {x1 : Int32} {x2 : Int32} {x3 : Int32} {x4 : Int32} {L : Nat} {w : Bool} {I : Nat → Nat → Int32} {J : Nat → Nat → Int64} {r : cd_Ret} (h : (if x1 < x4 then (cd_go 111 6 [.int x0, .int x1, .int x2, .int (x3 / 3), .int (x4 + (-1))] [] (cd_mm L w I J)) else some (some (.int (x3 - x3 / 3 * 3)), (cd_mm L w I J))) = some r) : cd_go 111 6 [.int x0, .int x1, .int x2, .int x3, .int x4] [] (cd_mm L w I J) = some r := cd_q111_6 h
set_option maxRecDepth 1000000 in
set_option maxHeartbeats 8000000 in
theorem cd_s112_0 {x1 : Int32} {x2 : Int32} {x3 : Int32} {x4 : Int32} {L : Nat} {w : Bool} {I : Nat → Nat → Int32} {J : Nat → Nat → Int64} {r : cd_Ret} (h : (if x4 = (-1) then (cd_go 112 9 [.ref 2, .int x1, .int x2, .int x3, .int x4] [] (cd_mm L w I J)) else (cd_ci (cd_c 64 [.ref 2, .int x4] (cd_mm L w I J))).bind fun q => cd_go 112 6 [.ref 2, .int x1, .int x2, .int x3, .int x4] [.int q.1] q.2) = some r) : cd_go 112 0 [.ref 2, .int x1, .int x2, .int x3, .int x4] [] (cd_mm L w I J) = some r := by
  refine cd_q112_0 ?_
  simp only [cd_zwI, cd_zwL, cd_zI, cd_zJ, cd_zcp, true_and, if_true, cd_zk_2]
  exact h
set_option maxRecDepth 1000000 in
set_option maxHeartbeats 8000000 in
theorem cd_s112_6 {x1 : Int32} {x2 : Int32} {x3 : Int32} {x4 : Int32} {s0 : Int32} {L : Nat} {w : Bool} {I : Nat → Nat → Int32} {J : Nat → Nat → Int64} {r : cd_Ret} (h : (if s0 = 0 then (some (some (.int (-1001)), (cd_mm L w I J))) else cd_go 112 9 [.ref 2, .int x1, .int x2, .int x3, .int x4] [] (cd_mm L w I J)) = some r) : cd_go 112 6 [.ref 2, .int x1, .int x2, .int x3, .int x4] [.int s0] (cd_mm L w I J) = some r := cd_q112_6 h
set_option maxRecDepth 1000000 in
set_option maxHeartbeats 8000000 in
theorem cd_s112_9 {x1 : Int32} {x2 : Int32} {x3 : Int32} {x4 : Int32} {L : Nat} {w : Bool} {I : Nat → Nat → Int32} {J : Nat → Nat → Int64} {r : cd_Ret} (h : ((cd_ci (cd_c 88 [.int x1] (cd_mm L w I J))).bind fun q => cd_go 112 11 [.ref 2, .int x1, .int x2, .int x3, .int x4] [.int q.1] q.2) = some r) : cd_go 112 9 [.ref 2, .int x1, .int x2, .int x3, .int x4] [] (cd_mm L w I J) = some r := cd_q112_9 h
set_option maxRecDepth 1000000 in
set_option maxHeartbeats 8000000 in
theorem cd_s112_11 {x1 : Int32} {x2 : Int32} {x3 : Int32} {x4 : Int32} {s0 : Int32} {L : Nat} {w : Bool} {I : Nat → Nat → Int32} {J : Nat → Nat → Int64} {r : cd_Ret} (h : (if s0 = 0 then (some (some (.int (-1002)), (cd_mm L w I J))) else if x2 < 0 then (some (some (.int (-1002)), (cd_mm L w I J))) else if 12 < x2 then (some (some (.int (-1002)), (cd_mm L w I J))) else if x3 < 0 then (some (some (.int (-1002)), (cd_mm L w I J))) else if 12 < x3 then (some (some (.int (-1002)), (cd_mm L w I J))) else if 7 < (I (cd_ple w) 2) then (some (some (.int (-1003)), (cd_mm L w I J))) else (cd_cv (cd_c 110 [.ref 21, .ref 5, .ref (cd_ple w), .ref 45, .int x1, .int x2, .int x3] (cd_mm L w I J))).bind fun m => cd_go 112 43 [.ref 2, .int x1, .int x2, .int x3, .int x4] [] m) = some r) : cd_go 112 11 [.ref 2, .int x1, .int x2, .int x3, .int x4] [.int s0] (cd_mm L w I J) = some r := by
  refine cd_q112_11 ?_
  simp only [cd_zwI, cd_zwL, cd_zI, cd_zJ, cd_zcp, true_and, if_true, cd_zk_2, cd_zR_2_12, cd_zk_w0_, cd_zR_2_2, cd_zR_2_1, cd_zR_2_6, cd_zk_21]
  exact h
set_option maxRecDepth 1000000 in
set_option maxHeartbeats 8000000 in
theorem cd_s112_43 {x1 : Int32} {x2 : Int32} {x3 : Int32} {x4 : Int32} {L : Nat} {w : Bool} {I : Nat → Nat → Int32} {J : Nat → Nat → Int64} {r : cd_Ret} (h : (if x4 = (-1) then (cd_go 112 58 [.ref 2, .int x1, .int x2, .int x3, .int x4] [.int (I 21 6)] (cd_mm L w I J)) else (cd_ci (cd_c 111 [.int (I 21 7), .int x4, .int (I (cd_ple w) 2)] (cd_mm L w I J))).bind fun q => cd_go 112 58 [.ref 2, .int x1, .int x2, .int x3, .int x4] [.int q.1] q.2) = some r) : cd_go 112 43 [.ref 2, .int x1, .int x2, .int x3, .int x4] [] (cd_mm L w I J) = some r := by
  refine cd_q112_43 ?_
  simp only [cd_zwI, cd_zwL, cd_zI, cd_zJ, cd_zcp, true_and, if_true, cd_zk_2, cd_zR_2_2, cd_zk_21, cd_zR_2_12, cd_zk_w0_]
  exact h
set_option maxRecDepth 1000000 in
set_option maxHeartbeats 8000000 in
theorem cd_s112_58 {x1 : Int32} {x2 : Int32} {x3 : Int32} {x4 : Int32} {s0 : Int32} {L : Nat} {w : Bool} {I : Nat → Nat → Int32} {J : Nat → Nat → Int64} {r : cd_Ret} (h : (some (some (.int s0), (cd_mm L w I J))) = some r) : cd_go 112 58 [.ref 2, .int x1, .int x2, .int x3, .int x4] [.int s0] (cd_mm L w I J) = some r := cd_q112_58 h
set_option maxRecDepth 1000000 in
set_option maxHeartbeats 8000000 in
theorem cd_s113_0 {p : Nat} (hp : p = 66 ∨ p = 83) {L : Nat} {w : Bool} {I : Nat → Nat → Int32} {J : Nat → Nat → Int64} {r : cd_Ret} (h : (cd_go 113 4 [.ref 21, .ref 5, .ref p, .ref 45, .int (-1), .int 0, .null, .null] [] (cd_mm L w I J)) = some r) : cd_go 113 0 [.ref 21, .ref 5, .ref p, .ref 45, .null, .null, .null, .null] [] (cd_mm L w I J) = some r := cd_q113_0 h
set_option maxRecDepth 1000000 in
set_option maxHeartbeats 8000000 in
theorem cd_s113_4 {x4 : Int32} {x5 : Int32} {w6 : Value} {w7 : Value} {p : Nat} (hp : p = 66 ∨ p = 83) {L : Nat} {w : Bool} {I : Nat → Nat → Int32} {J : Nat → Nat → Int64} {r : cd_Ret} (h : (if x5 < ((1 : Int32) <<< ((I p 2) &&& 31)) then ((cd_ci (cd_c 47 [.int x5] (cd_mm L w I J))).bind fun q => cd_go 113 12 [.ref 21, .ref 5, .ref p, .ref 45, .int x4, .int x5, w6, w7] [.int q.1] q.2) else some (some (.int x4), (cd_mm L w I J))) = some r) : cd_go 113 4 [.ref 21, .ref 5, .ref p, .ref 45, .int x4, .int x5, w6, w7] [] (cd_mm L w I J) = some r := by
  refine cd_q113_4 ?_
  simp only [cd_zwI, cd_zwL, cd_zI, cd_zJ, cd_zcp, true_and, if_true, cd_zk_p0_66_83 hp]
  exact h
set_option maxRecDepth 1000000 in
set_option maxHeartbeats 8000000 in
theorem cd_s113_12 {x4 : Int32} {x5 : Int32} {w6 : Value} {w7 : Value} {s0 : Int32} {p : Nat} (hp : p = 66 ∨ p = 83) {L : Nat} {w : Bool} {I : Nat → Nat → Int32} {J : Nat → Nat → Int64} {r : cd_Ret} (h : (if x4 = (-1) then ((cd_cv (cd_c 107 [.ref 21, .ref p, .ref 45] (cd_mm L w I J))).bind fun m => cd_go 113 23 [.ref 21, .ref 5, .ref p, .ref 45, .int x4, .int x5, .int s0, w7] [] m) else if s0 < x4 then ((cd_cv (cd_c 107 [.ref 21, .ref p, .ref 45] (cd_mm L w I J))).bind fun m => cd_go 113 23 [.ref 21, .ref 5, .ref p, .ref 45, .int x4, .int x5, .int s0, w7] [] m) else cd_go 113 4 [.ref 21, .ref 5, .ref p, .ref 45, .int x4, .int (x5 + 1), .int s0, w7] [] (cd_mm L w I J)) = some r) : cd_go 113 12 [.ref 21, .ref 5, .ref p, .ref 45, .int x4, .int x5, w6, w7] [.int s0] (cd_mm L w I J) = some r := by
  refine cd_q113_12 ?_
  simp only [cd_zwI, cd_zwL, cd_zI, cd_zJ, cd_zcp, true_and, if_true, cd_zk_21]
  exact h
set_option maxRecDepth 1000000 in
set_option maxHeartbeats 8000000 in
theorem cd_s113_23 {x4 : Int32} {x5 : Int32} {x6 : Int32} {w7 : Value} {p : Nat} (hp : p = 66 ∨ p = 83) {L : Nat} {w : Bool} {I : Nat → Nat → Int32} {J : Nat → Nat → Int64} {r : cd_Ret} (h : (cd_go 113 25 [.ref 21, .ref 5, .ref p, .ref 45, .int x4, .int x5, .int x6, .int 0] [] (cd_mm L w I J)) = some r) : cd_go 113 23 [.ref 21, .ref 5, .ref p, .ref 45, .int x4, .int x5, .int x6, w7] [] (cd_mm L w I J) = some r := cd_q113_23 h
set_option maxRecDepth 1000000 in
set_option maxHeartbeats 8000000 in
theorem cd_s113_25 {x4 : Int32} {x5 : Int32} {x6 : Int32} {x7 : Int32} {p : Nat} (hp : p = 66 ∨ p = 83) {L : Nat} {w : Bool} {I : Nat → Nat → Int32} {J : Nat → Nat → Int64} {r : cd_Ret} (h : (if x7 < (I p 2) then (if (((x5.toUInt32 >>> (x7.toUInt32 &&& Int32.toUInt32 31)).toInt32) &&& 1) = 0 then ((cd_cv (cd_c 32 [.ref 22, .int x7, .int 0, .int 0] (cd_mm L w I J))).bind fun m => cd_go 113 43 [.ref 21, .ref 5, .ref p, .ref 45, .int x4, .int x5, .int x6, .int x7] [] m) else (cd_cv (cd_c 32 [.ref 22, .int x7, .int 1, .int 0] (cd_mm L w I J))).bind fun m => cd_go 113 43 [.ref 21, .ref 5, .ref p, .ref 45, .int x4, .int x5, .int x6, .int x7] [] m) else (cd_ci (cd_c 79 [.ref 5, .ref p, .ref 22, .int (-1), .int 0] (cd_mm L w I J))).bind fun q => cd_go 113 52 [.ref 21, .ref 5, .ref p, .ref 45, .int x4, .int x5, .int x6, .int x7] [.int q.1] q.2) = some r) : cd_go 113 25 [.ref 21, .ref 5, .ref p, .ref 45, .int x4, .int x5, .int x6, .int x7] [] (cd_mm L w I J) = some r := by
  refine cd_q113_25 ?_
  simp only [cd_zwI, cd_zwL, cd_zI, cd_zJ, cd_zcp, true_and, if_true, cd_zk_p0_66_83 hp, cd_zk_21, cd_zR_21_0, cd_zk_22, cd_zk_5]
  exact h
set_option maxRecDepth 1000000 in
set_option maxHeartbeats 8000000 in
theorem cd_s113_43 {x4 : Int32} {x5 : Int32} {x6 : Int32} {x7 : Int32} {p : Nat} (hp : p = 66 ∨ p = 83) {L : Nat} {w : Bool} {I : Nat → Nat → Int32} {J : Nat → Nat → Int64} {r : cd_Ret} (h : (cd_go 113 25 [.ref 21, .ref 5, .ref p, .ref 45, .int x4, .int x5, .int x6, .int (x7 + 1)] [] (cd_mm L w I J)) = some r) : cd_go 113 43 [.ref 21, .ref 5, .ref p, .ref 45, .int x4, .int x5, .int x6, .int x7] [] (cd_mm L w I J) = some r := cd_q113_43 h
set_option maxRecDepth 1000000 in
set_option maxHeartbeats 8000000 in
theorem cd_s113_52 {x4 : Int32} {x5 : Int32} {x6 : Int32} {x7 : Int32} {s0 : Int32} {p : Nat} (hp : p = 66 ∨ p = 83) {L : Nat} {w : Bool} {I : Nat → Nat → Int32} {J : Nat → Nat → Int64} {r : cd_Ret} (h : (if s0 = 0 then (cd_go 113 4 [.ref 21, .ref 5, .ref p, .ref 45, .int x4, .int (x5 + 1), .int x6, .int x7] [] (cd_mm L w I J)) else cd_go 113 4 [.ref 21, .ref 5, .ref p, .ref 45, .int x6, .int (x5 + 1), .int x6, .int x7] [] (cd_mm L w I J)) = some r) : cd_go 113 52 [.ref 21, .ref 5, .ref p, .ref 45, .int x4, .int x5, .int x6, .int x7] [.int s0] (cd_mm L w I J) = some r := cd_q113_52 h
set_option maxRecDepth 1000000 in
set_option maxHeartbeats 8000000 in
theorem cd_s114_0 {L : Nat} {w : Bool} {I : Nat → Nat → Int32} {J : Nat → Nat → Int64} {r : cd_Ret} (h : (if 7 < (I (cd_ple w) 2) then (cd_go 114 16 [.ref 2] [.int (-1003)] (cd_mm L w I J)) else (cd_ci (cd_c 113 [.ref 21, .ref 5, .ref (cd_ple w), .ref 45] (cd_mm L w I J))).bind fun q => cd_go 114 16 [.ref 2] [.int q.1] q.2) = some r) : cd_go 114 0 [.ref 2] [] (cd_mm L w I J) = some r := by
  refine cd_q114_0 ?_
  simp only [cd_zwI, cd_zwL, cd_zI, cd_zJ, cd_zcp, true_and, if_true, cd_zk_2, cd_zR_2_12, cd_zk_w0_, cd_zR_2_2, cd_zR_2_1, cd_zR_2_6, cd_zk_21]
  exact h
set_option maxRecDepth 1000000 in
set_option maxHeartbeats 8000000 in
theorem cd_s114_16 {s0 : Int32} {L : Nat} {w : Bool} {I : Nat → Nat → Int32} {J : Nat → Nat → Int64} {r : cd_Ret} (h : (some (some (.int s0), (cd_mm L w I J))) = some r) : cd_go 114 16 [.ref 2] [.int s0] (cd_mm L w I J) = some r := cd_q114_16 h
set_option maxRecDepth 1000000 in
set_option maxHeartbeats 8000000 in
theorem cd_s115_0 {x1 : Int32} {L : Nat} {w : Bool} {I : Nat → Nat → Int32} {J : Nat → Nat → Int64} {r : cd_Ret} (h : (cd_go 115 2 [.ref 21, .int x1, .int 0] [] (cd_mm L w I J)) = some r) : cd_go 115 0 [.ref 21, .int x1, .null] [] (cd_mm L w I J) = some r := cd_q115_0 h
set_option maxRecDepth 1000000 in
set_option maxHeartbeats 8000000 in
theorem cd_s115_2 {x1 : Int32} {x2 : Int32} {L : Nat} {w : Bool} {I : Nat → Nat → Int32} {J : Nat → Nat → Int64} {r : cd_Ret} (h : (if x2 < (I 21 5) then (if (((x1.toUInt32 >>> (x2.toUInt32 &&& Int32.toUInt32 31)).toInt32) &&& 1) = 0 then (if cd_in (x1 ||| ((1 : Int32) <<< (x2 &&& 31))) 128 = true then (if (I 29 (x1 ||| ((1 : Int32) <<< (x2 &&& 31))).toNatClampNeg) = 0 then (cd_go 115 2 [.ref 21, .int x1, .int (x2 + 1)] [] (cd_mm L w I J)) else some (some (.int x2), (cd_mm L w I J))) else none) else cd_go 115 2 [.ref 21, .int x1, .int (x2 + 1)] [] (cd_mm L w I J)) else some (some (.int (-1)), (cd_mm L w I J))) = some r) : cd_go 115 2 [.ref 21, .int x1, .int x2] [] (cd_mm L w I J) = some r := by
  refine cd_q115_2 ?_
  simp only [cd_zwI, cd_zwL, cd_zI, cd_zJ, cd_zcp, true_and, if_true, cd_zk_21, cd_zR_21_2, cd_zk_29, cd_zn_29]
  exact h
set_option maxRecDepth 1000000 in
set_option maxHeartbeats 8000000 in
theorem cd_s116_0 {x4 : Int32} {x5 : Int32} {p : Nat} (hp : p = 66 ∨ p = 83) {L : Nat} {w : Bool} {I : Nat → Nat → Int32} {J : Nat → Nat → Int64} {r : cd_Ret} (h : ((cd_cv (cd_c 39 [.ref 22, .ref 45] (cd_mm L w I J))).bind fun m => cd_go 116 4 [.ref 21, .ref 5, .ref p, .ref 45, .int x4, .int x5, .null, .null, .null] [] m) = some r) : cd_go 116 0 [.ref 21, .ref 5, .ref p, .ref 45, .int x4, .int x5, .null, .null, .null] [] (cd_mm L w I J) = some r := by
  refine cd_q116_0 ?_
  simp only [cd_zwI, cd_zwL, cd_zI, cd_zJ, cd_zcp, true_and, if_true, cd_zk_21, cd_zR_21_0, cd_zk_22]
  exact h
set_option maxRecDepth 1000000 in
set_option maxHeartbeats 8000000 in
theorem cd_s116_4 {x4 : Int32} {x5 : Int32} {p : Nat} (hp : p = 66 ∨ p = 83) {L : Nat} {w : Bool} {I : Nat → Nat → Int32} {J : Nat → Nat → Int64} {r : cd_Ret} (h : (cd_go 116 12 [.ref 21, .ref 5, .ref p, .ref 45, .int x4, .int x5, .int x5, .int 0, .null] [] (cd_mm L w (cd_up I 22 2 0) J)) = some r) : cd_go 116 4 [.ref 21, .ref 5, .ref p, .ref 45, .int x4, .int x5, .null, .null, .null] [] (cd_mm L w I J) = some r := by
  refine cd_q116_4 ?_
  simp only [cd_zwI, cd_zwL, cd_zI, cd_zJ, cd_zcp, true_and, if_true, cd_zk_21, cd_zR_21_0, cd_zk_22]
  exact h
set_option maxRecDepth 1000000 in
set_option maxHeartbeats 8000000 in
theorem cd_s116_12 {x4 : Int32} {x5 : Int32} {x6 : Int32} {x7 : Int32} {w8 : Value} {p : Nat} (hp : p = 66 ∨ p = 83) {L : Nat} {w : Bool} {I : Nat → Nat → Int32} {J : Nat → Nat → Int64} {r : cd_Ret} (h : (if x7 < (I 21 5) then (if cd_in x7 7 = true then (if (((x4.toUInt32 >>> (x7.toUInt32 &&& Int32.toUInt32 31)).toInt32) &&& 1) = 0 then (if 0 < x6 then (if cd_in (I 30 x7.toNatClampNeg) 12 = true then (cd_go 116 12 [.ref 21, .ref 5, .ref p, .ref 45, .int x4, .int x5, .int (x6 + (-1)), .int (x7 + 1), .int (I 30 x7.toNatClampNeg)] [] (cd_mm L w (cd_up (cd_up I 22 2 ((I 22 2) ||| ((1 : Int32) <<< ((I 30 x7.toNatClampNeg) &&& 31)))) 24 (I 30 x7.toNatClampNeg).toNatClampNeg 4) J)) else none) else cd_go 116 12 [.ref 21, .ref 5, .ref p, .ref 45, .int x4, .int x5, .int x6, .int (x7 + 1), .int (I 30 x7.toNatClampNeg)] [] (cd_mm L w I J)) else cd_go 116 12 [.ref 21, .ref 5, .ref p, .ref 45, .int x4, .int x5, .int x6, .int (x7 + 1), .int (I 30 x7.toNatClampNeg)] [] (cd_mm L w (cd_up I 22 2 ((I 22 2) ||| ((1 : Int32) <<< ((I 30 x7.toNatClampNeg) &&& 31)))) J)) else none) else (cd_ci (cd_c 79 [.ref 5, .ref p, .ref 22, .int (-1), .int 0] (cd_mm L w I J))).bind fun q => cd_go 116 64 [.ref 21, .ref 5, .ref p, .ref 45, .int x4, .int x5, .int x6, .int x7, w8] [.int q.1] q.2) = some r) : cd_go 116 12 [.ref 21, .ref 5, .ref p, .ref 45, .int x4, .int x5, .int x6, .int x7, w8] [] (cd_mm L w I J) = some r := by
  refine cd_q116_12 ?_
  simp only [cd_zwI, cd_zwL, cd_zI, cd_zJ, cd_zcp, true_and, if_true, cd_zk_21, cd_zR_21_3, cd_zk_30, cd_zn_30, cd_zR_21_0, cd_zk_22, cd_zR_22_3, cd_zk_24, cd_zn_24, cd_zk_5]
  exact h
set_option maxRecDepth 1000000 in
set_option maxHeartbeats 8000000 in
theorem cd_s116_64 {x4 : Int32} {x5 : Int32} {x6 : Int32} {x7 : Int32} {w8 : Value} {s0 : Int32} {p : Nat} (hp : p = 66 ∨ p = 83) {L : Nat} {w : Bool} {I : Nat → Nat → Int32} {J : Nat → Nat → Int64} {r : cd_Ret} (h : (if s0 &&& 1 = s0 then some (some (.int s0), (cd_mm L w I J)) else none) = some r) : cd_go 116 64 [.ref 21, .ref 5, .ref p, .ref 45, .int x4, .int x5, .int x6, .int x7, w8] [.int s0] (cd_mm L w I J) = some r := cd_q116_64 h
set_option maxRecDepth 1000000 in
set_option maxHeartbeats 8000000 in
theorem cd_s117_0 {x4 : Int32} {x5 : Int32} {p : Nat} (hp : p = 66 ∨ p = 83) {L : Nat} {w : Bool} {I : Nat → Nat → Int32} {J : Nat → Nat → Int64} {r : cd_Ret} (h : (cd_go 117 5 [.ref 21, .ref 5, .ref p, .ref 45, .int x4, .int x5, .int 0, .null, .null, .null] [] (cd_mm L w (cd_up I 21 5 0) J)) = some r) : cd_go 117 0 [.ref 21, .ref 5, .ref p, .ref 45, .int x4, .int x5, .null, .null, .null, .null] [] (cd_mm L w I J) = some r := by
  refine cd_q117_0 ?_
  simp only [cd_zwI, cd_zwL, cd_zI, cd_zJ, cd_zcp, true_and, if_true, cd_zk_21]
  exact h
set_option maxRecDepth 1000000 in
set_option maxHeartbeats 8000000 in
theorem cd_s117_5 {x4 : Int32} {x5 : Int32} {x6 : Int32} {p : Nat} (hp : p = 66 ∨ p = 83) {L : Nat} {w : Bool} {I : Nat → Nat → Int32} {J : Nat → Nat → Int64} {r : cd_Ret} (h : (if x6 < (I p 2) then ((cd_ci (cd_c 59 [.ref 45, .int x6] (cd_mm L w I J))).bind fun q => cd_go 117 12 [.ref 21, .ref 5, .ref p, .ref 45, .int x4, .int x5, .int x6, .null, .null, .null] [.int q.1] q.2) else cd_go 117 40 [.ref 21, .ref 5, .ref p, .ref 45, .int x4, .int x5, .int (((1 : Int32) <<< ((I 21 5) &&& 31)) - 1), .int (((1 : Int32) <<< ((I 21 5) &&& 31)) - 1), .null, .null] [] (cd_mm L w I J)) = some r) : cd_go 117 5 [.ref 21, .ref 5, .ref p, .ref 45, .int x4, .int x5, .int x6, .null, .null, .null] [] (cd_mm L w I J) = some r := by
  refine cd_q117_5 ?_
  simp only [cd_zwI, cd_zwL, cd_zI, cd_zJ, cd_zcp, true_and, if_true, cd_zk_p0_66_83 hp, cd_zk_45, cd_zk_21]
  exact h
set_option maxRecDepth 1000000 in
set_option maxHeartbeats 8000000 in
theorem cd_s117_12 {x4 : Int32} {x5 : Int32} {x6 : Int32} {s0 : Int32} {p : Nat} (hp : p = 66 ∨ p = 83) {L : Nat} {w : Bool} {I : Nat → Nat → Int32} {J : Nat → Nat → Int64} {r : cd_Ret} (h : (if s0 = 0 then (cd_go 117 5 [.ref 21, .ref 5, .ref p, .ref 45, .int x4, .int x5, .int (x6 + 1), .null, .null, .null] [] (cd_mm L w I J)) else if (I 21 5) < 7 then (if cd_in (I 21 5) 7 = true then (cd_go 117 5 [.ref 21, .ref 5, .ref p, .ref 45, .int x4, .int x5, .int (x6 + 1), .null, .null, .null] [] (cd_mm L w (cd_up (cd_up I 30 (I 21 5).toNatClampNeg x6) 21 5 (((cd_up I 30 (I 21 5).toNatClampNeg x6) 21 5) + 1)) J)) else none) else cd_go 117 5 [.ref 21, .ref 5, .ref p, .ref 45, .int x4, .int x5, .int (x6 + 1), .null, .null, .null] [] (cd_mm L w I J)) = some r) : cd_go 117 12 [.ref 21, .ref 5, .ref p, .ref 45, .int x4, .int x5, .int x6, .null, .null, .null] [.int s0] (cd_mm L w I J) = some r := by
  refine cd_q117_12 ?_
  simp only [cd_zwI, cd_zwL, cd_zI, cd_zJ, cd_zcp, true_and, if_true, cd_zk_21, cd_zR_21_3, cd_zk_30, cd_zn_30]
  exact h
set_option maxRecDepth 1000000 in
set_option maxHeartbeats 8000000 in
theorem cd_s117_40 {x4 : Int32} {x5 : Int32} {x6 : Int32} {x7 : Int32} {w8 : Value} {w9 : Value} {p : Nat} (hp : p = 66 ∨ p = 83) {L : Nat} {w : Bool} {I : Nat → Nat → Int32} {J : Nat → Nat → Int64} {r : cd_Ret} (h : (if x7 < 0 then (if cd_in 0 128 = true then (if (I 29 (0 : Int32).toNatClampNeg) = 0 then (some (some (.int 0), (cd_mm L w I J))) else cd_go 117 96 [.ref 21, .ref 5, .ref p, .ref 45, .int x4, .int x5, .int x6, .int 0, .int 0, w9] [] (cd_mm L w I J)) else none) else if x7 = x6 then (cd_go 117 50 [.ref 21, .ref 5, .ref p, .ref 45, .int x4, .int x5, .int x6, .int x7, w8, w9] [] (cd_mm L w I J)) else (cd_ci (cd_c 115 [.ref 21, .int x7] (cd_mm L w I J))).bind fun q => cd_go 117 48 [.ref 21, .ref 5, .ref p, .ref 45, .int x4, .int x5, .int x6, .int x7, w8, w9] [.int q.1] q.2) = some r) : cd_go 117 40 [.ref 21, .ref 5, .ref p, .ref 45, .int x4, .int x5, .int x6, .int x7, w8, w9] [] (cd_mm L w I J) = some r := by
  refine cd_q117_40 ?_
  simp only [cd_zwI, cd_zwL, cd_zI, cd_zJ, cd_zcp, true_and, if_true, cd_zk_21, cd_zR_21_2, cd_zk_29, cd_zn_29]
  exact h
set_option maxRecDepth 1000000 in
set_option maxHeartbeats 8000000 in
theorem cd_s117_48 {x4 : Int32} {x5 : Int32} {x6 : Int32} {x7 : Int32} {w8 : Value} {w9 : Value} {s0 : Int32} {p : Nat} (hp : p = 66 ∨ p = 83) {L : Nat} {w : Bool} {I : Nat → Nat → Int32} {J : Nat → Nat → Int64} {r : cd_Ret} (h : (if s0 = (-1) then (if x5 = 0 then (if cd_in x7 128 = true then (cd_go 117 40 [.ref 21, .ref 5, .ref p, .ref 45, .int x4, .int x5, .int x6, .int (x7 + (-1)), .int 0, .int x7] [] (cd_mm L w (cd_up I 29 x7.toNatClampNeg 0) J)) else none) else if cd_in x7 128 = true then (cd_go 117 40 [.ref 21, .ref 5, .ref p, .ref 45, .int x4, .int x5, .int x6, .int (x7 + (-1)), .int 0, .int (x6 &&& (x7 ^^^ (-1)))] [] (cd_mm L w (cd_up I 29 x7.toNatClampNeg 0) J)) else none) else cd_go 117 50 [.ref 21, .ref 5, .ref p, .ref 45, .int x4, .int x5, .int x6, .int x7, w8, w9] [] (cd_mm L w I J)) = some r) : cd_go 117 48 [.ref 21, .ref 5, .ref p, .ref 45, .int x4, .int x5, .int x6, .int x7, w8, w9] [.int s0] (cd_mm L w I J) = some r := by
  refine cd_q117_48 ?_
  simp only [cd_zwI, cd_zwL, cd_zI, cd_zJ, cd_zcp, true_and, if_true, cd_zk_21, cd_zR_21_2, cd_zk_29, cd_zn_29]
  exact h
set_option maxRecDepth 1000000 in
set_option maxHeartbeats 8000000 in
theorem cd_s117_50 {x4 : Int32} {x5 : Int32} {x6 : Int32} {x7 : Int32} {w8 : Value} {w9 : Value} {p : Nat} (hp : p = 66 ∨ p = 83) {L : Nat} {w : Bool} {I : Nat → Nat → Int32} {J : Nat → Nat → Int64} {r : cd_Ret} (h : (if x5 = 0 then (if x7 = 0 then (if cd_in x7 128 = true then (cd_go 117 40 [.ref 21, .ref 5, .ref p, .ref 45, .int x4, .int x5, .int x6, .int (x7 + (-1)), .int 1, .int x7] [] (cd_mm L w (cd_up I 29 x7.toNatClampNeg 1) J)) else none) else (cd_ci (cd_c 116 [.ref 21, .ref 5, .ref p, .ref 45, .int x7, .int x4] (cd_mm L w I J))).bind fun q => cd_go 117 78 [.ref 21, .ref 5, .ref p, .ref 45, .int x4, .int x5, .int x6, .int x7, .int 1, .int x7] [.int q.1, .int x7, .ref 29] q.2) else if x7 = 0 then (if cd_in x7 128 = true then (cd_go 117 40 [.ref 21, .ref 5, .ref p, .ref 45, .int x4, .int x5, .int x6, .int (x7 + (-1)), .int 1, .int (x6 &&& (x7 ^^^ (-1)))] [] (cd_mm L w (cd_up I 29 x7.toNatClampNeg 1) J)) else none) else (cd_ci (cd_c 116 [.ref 21, .ref 5, .ref p, .ref 45, .int (x6 &&& (x7 ^^^ (-1))), .int x4] (cd_mm L w I J))).bind fun q => cd_go 117 78 [.ref 21, .ref 5, .ref p, .ref 45, .int x4, .int x5, .int x6, .int x7, .int 1, .int (x6 &&& (x7 ^^^ (-1)))] [.int q.1, .int x7, .ref 29] q.2) = some r) : cd_go 117 50 [.ref 21, .ref 5, .ref p, .ref 45, .int x4, .int x5, .int x6, .int x7, w8, w9] [] (cd_mm L w I J) = some r := by
  refine cd_q117_50 ?_
  simp only [cd_zwI, cd_zwL, cd_zI, cd_zJ, cd_zcp, true_and, if_true, cd_zk_21, cd_zR_21_2, cd_zk_29, cd_zn_29]
  exact h
set_option maxRecDepth 1000000 in
set_option maxHeartbeats 8000000 in
theorem cd_s117_78 {x4 : Int32} {x5 : Int32} {x6 : Int32} {x7 : Int32} {x8 : Int32} {x9 : Int32} {s1 : Int32} {s2 : Int32} {p : Nat} (hp : p = 66 ∨ p = 83) {L : Nat} {w : Bool} {I : Nat → Nat → Int32} {J : Nat → Nat → Int64} {r : cd_Ret} (h : (if s2 = 0 then (if cd_in s1 128 = true then (cd_go 117 40 [.ref 21, .ref 5, .ref p, .ref 45, .int x4, .int x5, .int x6, .int (x7 + (-1)), .int x8, .int x9] [] (cd_mm L w (cd_up I 29 s1.toNatClampNeg 0) J)) else none) else if cd_in s1 128 = true then (cd_go 117 40 [.ref 21, .ref 5, .ref p, .ref 45, .int x4, .int x5, .int x6, .int (x7 + (-1)), .int x8, .int x9] [] (cd_mm L w (cd_up I 29 s1.toNatClampNeg 1) J)) else none) = some r) : cd_go 117 78 [.ref 21, .ref 5, .ref p, .ref 45, .int x4, .int x5, .int x6, .int x7, .int x8, .int x9] [.int s2, .int s1, .ref 29] (cd_mm L w I J) = some r := by
  refine cd_q117_78 ?_
  simp only [cd_zwI, cd_zwL, cd_zI, cd_zJ, cd_zcp, true_and, if_true, cd_zk_29, cd_zn_29]
  exact h
set_option maxRecDepth 1000000 in
set_option maxHeartbeats 8000000 in
theorem cd_s117_96 {x4 : Int32} {x5 : Int32} {x6 : Int32} {x7 : Int32} {x8 : Int32} {w9 : Value} {p : Nat} (hp : p = 66 ∨ p = 83) {L : Nat} {w : Bool} {I : Nat → Nat → Int32} {J : Nat → Nat → Int64} {r : cd_Ret} (h : (if x8 < (I 21 5) then ((cd_ci (cd_c 115 [.ref 21, .int x7] (cd_mm L w I J))).bind fun q => cd_go 117 103 [.ref 21, .ref 5, .ref p, .ref 45, .int x4, .int x5, .int x6, .int x7, .int x8, w9] [.int q.1] q.2) else some (some (.int 1), (cd_mm L w I J))) = some r) : cd_go 117 96 [.ref 21, .ref 5, .ref p, .ref 45, .int x4, .int x5, .int x6, .int x7, .int x8, w9] [] (cd_mm L w I J) = some r := by
  refine cd_q117_96 ?_
  simp only [cd_zwI, cd_zwL, cd_zI, cd_zJ, cd_zcp, true_and, if_true, cd_zk_21]
  exact h
set_option maxRecDepth 1000000 in
set_option maxHeartbeats 8000000 in
theorem cd_s117_103 {x4 : Int32} {x5 : Int32} {x6 : Int32} {x7 : Int32} {x8 : Int32} {w9 : Value} {s0 : Int32} {p : Nat} (hp : p = 66 ∨ p = 83) {L : Nat} {w : Bool} {I : Nat → Nat → Int32} {J : Nat → Nat → Int64} {r : cd_Ret} (h : (if s0 = (-1) then (some (some (.int 0), (cd_mm L w I J))) else if cd_in s0 7 = true then (if cd_in x8 7 = true then (cd_go 117 96 [.ref 21, .ref 5, .ref p, .ref 45, .int x4, .int x5, .int x6, .int (x7 ||| ((1 : Int32) <<< (s0 &&& 31))), .int (x8 + 1), .int s0] [] (cd_mm L w (cd_up I 31 x8.toNatClampNeg (I 30 s0.toNatClampNeg)) J)) else none) else none) = some r) : cd_go 117 103 [.ref 21, .ref 5, .ref p, .ref 45, .int x4, .int x5, .int x6, .int x7, .int x8, w9] [.int s0] (cd_mm L w I J) = some r := by
  refine cd_q117_103 ?_
  simp only [cd_zwI, cd_zwL, cd_zI, cd_zJ, cd_zcp, true_and, if_true, cd_zk_21, cd_zR_21_4, cd_zR_21_3, cd_zk_30, cd_zn_30, cd_zk_31, cd_zn_31]
  exact h
set_option maxRecDepth 1000000 in
set_option maxHeartbeats 8000000 in
theorem cd_s118_0 {x1 : Int32} {x2 : Int32} {x3 : Int32} {L : Nat} {w : Bool} {I : Nat → Nat → Int32} {J : Nat → Nat → Int64} {r : cd_Ret} (h : (if x1 < 0 then (some (some (.int (-1002)), (cd_mm L w I J))) else if 4 < x1 then (some (some (.int (-1002)), (cd_mm L w I J))) else (cd_ci (cd_c 47 [.int (I 45 2)] (cd_mm L w I J))).bind fun q => cd_go 118 11 [.ref 2, .int x1, .int x2, .int x3] [.int q.1] q.2) = some r) : cd_go 118 0 [.ref 2, .int x1, .int x2, .int x3] [] (cd_mm L w I J) = some r := by
  refine cd_q118_0 ?_
  simp only [cd_zwI, cd_zwL, cd_zI, cd_zJ, cd_zcp, true_and, if_true, cd_zk_2, cd_zR_2_6, cd_zk_45]
  exact h
set_option maxRecDepth 1000000 in
set_option maxHeartbeats 8000000 in
theorem cd_s118_11 {x1 : Int32} {x2 : Int32} {x3 : Int32} {s0 : Int32} {L : Nat} {w : Bool} {I : Nat → Nat → Int32} {J : Nat → Nat → Int64} {r : cd_Ret} (h : (if 7 < s0 then (some (some (.int (-1003)), (cd_mm L w I J))) else (cd_ci (cd_c 117 [.ref 21, .ref 5, .ref (cd_ple w), .ref 45, .int x1, .int x2] (cd_mm L w I J))).bind fun q => cd_go 118 26 [.ref 2, .int x1, .int x2, .int x3] [.int q.1] q.2) = some r) : cd_go 118 11 [.ref 2, .int x1, .int x2, .int x3] [.int s0] (cd_mm L w I J) = some r := by
  refine cd_q118_11 ?_
  simp only [cd_zwI, cd_zwL, cd_zI, cd_zJ, cd_zcp, true_and, if_true, cd_zk_2, cd_zR_2_2, cd_zR_2_1, cd_zR_2_12, cd_zR_2_6, cd_zk_21]
  exact h
set_option maxRecDepth 1000000 in
set_option maxHeartbeats 8000000 in
theorem cd_s118_26 {x1 : Int32} {x2 : Int32} {x3 : Int32} {s0 : Int32} {L : Nat} {w : Bool} {I : Nat → Nat → Int32} {J : Nat → Nat → Int64} {r : cd_Ret} (h : (if s0 = 0 then (some (some (.int (-1)), (cd_mm L w I J))) else if x3 = (-1) then (some (some (.int 1), (cd_mm L w I J))) else if x3 < 0 then (some (some (.int (-1)), (cd_mm L w I J))) else if x3 < (I 21 5) then (if cd_in x3 7 = true then (some (some (.int (I 31 x3.toNatClampNeg)), (cd_mm L w I J))) else none) else some (some (.int (-1)), (cd_mm L w I J))) = some r) : cd_go 118 26 [.ref 2, .int x1, .int x2, .int x3] [.int s0] (cd_mm L w I J) = some r := by
  refine cd_q118_26 ?_
  simp only [cd_zwI, cd_zwL, cd_zI, cd_zJ, cd_zcp, true_and, if_true, cd_zk_2, cd_zR_2_2, cd_zk_21, cd_zR_21_4, cd_zk_31, cd_zn_31]
  exact h
set_option maxRecDepth 1000000 in
set_option maxHeartbeats 8000000 in
theorem cd_s119_0 {x4 : Int32} {p : Nat} (hp : p = 66 ∨ p = 83) {L : Nat} {w : Bool} {I : Nat → Nat → Int32} {J : Nat → Nat → Int64} {r : cd_Ret} (h : (cd_go 119 4 [.ref 21, .ref 5, .ref p, .ref 45, .int x4, .int 0, .int 0] [] (cd_mm L w I J)) = some r) : cd_go 119 0 [.ref 21, .ref 5, .ref p, .ref 45, .int x4, .null, .null] [] (cd_mm L w I J) = some r := cd_q119_0 h
set_option maxRecDepth 1000000 in
set_option maxHeartbeats 8000000 in
theorem cd_s119_4 {x4 : Int32} {x5 : Int32} {x6 : Int32} {p : Nat} (hp : p = 66 ∨ p = 83) {L : Nat} {w : Bool} {I : Nat → Nat → Int32} {J : Nat → Nat → Int64} {r : cd_Ret} (h : (if x6 < (I p 2) then ((cd_ci (cd_c 59 [.ref 45, .int x6] (cd_mm L w I J))).bind fun q => cd_go 119 11 [.ref 21, .ref 5, .ref p, .ref 45, .int x4, .int x5, .int x6] [.int q.1] q.2) else some (some (.int x5), (cd_mm L w I J))) = some r) : cd_go 119 4 [.ref 21, .ref 5, .ref p, .ref 45, .int x4, .int x5, .int x6] [] (cd_mm L w I J) = some r := by
  refine cd_q119_4 ?_
  simp only [cd_zwI, cd_zwL, cd_zI, cd_zJ, cd_zcp, true_and, if_true, cd_zk_p0_66_83 hp, cd_zk_45]
  exact h
set_option maxRecDepth 1000000 in
set_option maxHeartbeats 8000000 in
theorem cd_s119_11 {x4 : Int32} {x5 : Int32} {x6 : Int32} {s0 : Int32} {p : Nat} (hp : p = 66 ∨ p = 83) {L : Nat} {w : Bool} {I : Nat → Nat → Int32} {J : Nat → Nat → Int64} {r : cd_Ret} (h : (if s0 = 0 then (cd_go 119 4 [.ref 21, .ref 5, .ref p, .ref 45, .int x4, .int x5, .int (x6 + 1)] [] (cd_mm L w I J)) else (cd_cv (cd_c 39 [.ref 22, .ref 45] (cd_mm L w I J))).bind fun m => cd_go 119 16 [.ref 21, .ref 5, .ref p, .ref 45, .int x4, .int x5, .int x6] [] m) = some r) : cd_go 119 11 [.ref 21, .ref 5, .ref p, .ref 45, .int x4, .int x5, .int x6] [.int s0] (cd_mm L w I J) = some r := by
  refine cd_q119_11 ?_
  simp only [cd_zwI, cd_zwL, cd_zI, cd_zJ, cd_zcp, true_and, if_true, cd_zk_21, cd_zR_21_0, cd_zk_22]
  exact h
set_option maxRecDepth 1000000 in
set_option maxHeartbeats 8000000 in
theorem cd_s119_16 {x4 : Int32} {x5 : Int32} {x6 : Int32} {p : Nat} (hp : p = 66 ∨ p = 83) {L : Nat} {w : Bool} {I : Nat → Nat → Int32} {J : Nat → Nat → Int64} {r : cd_Ret} (h : ((cd_cv (cd_c 82 [.ref 5, .ref p, .ref 22, .int (-1), .int 0, .ref 26] (cd_mm L w (cd_up I 22 2 ((I 22 2) &&& (((1 : Int32) <<< (x6 &&& 31)) ^^^ (-1)))) J))).bind fun m => cd_go 119 36 [.ref 21, .ref 5, .ref p, .ref 45, .int x4, .int x5, .int x6] [] m) = some r) : cd_go 119 16 [.ref 21, .ref 5, .ref p, .ref 45, .int x4, .int x5, .int x6] [] (cd_mm L w I J) = some r := by
  refine cd_q119_16 ?_
  simp only [cd_zwI, cd_zwL, cd_zI, cd_zJ, cd_zcp, true_and, if_true, cd_zk_21, cd_zR_21_0, cd_zk_22, cd_zR_21_1, cd_zk_5]
  exact h
set_option maxRecDepth 1000000 in
set_option maxHeartbeats 8000000 in
theorem cd_s119_36 {x4 : Int32} {x5 : Int32} {x6 : Int32} {p : Nat} (hp : p = 66 ∨ p = 83) {L : Nat} {w : Bool} {I : Nat → Nat → Int32} {J : Nat → Nat → Int64} {r : cd_Ret} (h : (if (I 22 2) = x4 then (cd_go 119 4 [.ref 21, .ref 5, .ref p, .ref 45, .int x4, .int (x5 ||| ((1 : Int32) <<< (x6 &&& 31))), .int (x6 + 1)] [] (cd_mm L w I J)) else cd_go 119 4 [.ref 21, .ref 5, .ref p, .ref 45, .int x4, .int x5, .int (x6 + 1)] [] (cd_mm L w I J)) = some r) : cd_go 119 36 [.ref 21, .ref 5, .ref p, .ref 45, .int x4, .int x5, .int x6] [] (cd_mm L w I J) = some r := by
  refine cd_q119_36 ?_
  simp only [cd_zwI, cd_zwL, cd_zI, cd_zJ, cd_zcp, true_and, if_true, cd_zk_21, cd_zR_21_0, cd_zk_22]
  exact h
set_option maxRecDepth 1000000 in
set_option maxHeartbeats 8000000 in
theorem cd_s120_0 {x1 : Int32} {L : Nat} {w : Bool} {I : Nat → Nat → Int32} {J : Nat → Nat → Int64} {r : cd_Ret} (h : (if ((x1.toUInt32 >>> ((I (cd_ple w) 2).toUInt32 &&& Int32.toUInt32 31)).toInt32) = 0 then ((cd_ci (cd_c 119 [.ref 21, .ref 5, .ref (cd_ple w), .ref 45, .int x1] (cd_mm L w I J))).bind fun q => cd_go 120 18 [.ref 2, .int x1] [.int q.1] q.2) else cd_go 120 18 [.ref 2, .int x1] [.int (-1001)] (cd_mm L w I J)) = some r) : cd_go 120 0 [.ref 2, .int x1] [] (cd_mm L w I J) = some r := by
  refine cd_q120_0 ?_
  simp only [cd_zwI, cd_zwL, cd_zI, cd_zJ, cd_zcp, true_and, if_true, cd_zk_2, cd_zR_2_12, cd_zk_w0_, cd_zR_2_2, cd_zR_2_1, cd_zR_2_6, cd_zk_21]
  exact h
set_option maxRecDepth 1000000 in
set_option maxHeartbeats 8000000 in
theorem cd_s120_18 {x1 : Int32} {s0 : Int32} {L : Nat} {w : Bool} {I : Nat → Nat → Int32} {J : Nat → Nat → Int64} {r : cd_Ret} (h : (some (some (.int s0), (cd_mm L w I J))) = some r) : cd_go 120 18 [.ref 2, .int x1] [.int s0] (cd_mm L w I J) = some r := cd_q120_18 h
set_option maxRecDepth 1000000 in
set_option maxHeartbeats 8000000 in
theorem cd_s121_0 {x4 : Int32} {x5 : Int32} {x6 : Int32} {p : Nat} (hp : p = 66 ∨ p = 83) {L : Nat} {w : Bool} {I : Nat → Nat → Int32} {J : Nat → Nat → Int64} {r : cd_Ret} (h : ((cd_cv (cd_c 39 [.ref 22, .ref 45] (cd_mm L w I J))).bind fun m => cd_go 121 4 [.ref 21, .ref 5, .ref p, .ref 45, .int x4, .int x5, .int x6, .null] [] m) = some r) : cd_go 121 0 [.ref 21, .ref 5, .ref p, .ref 45, .int x4, .int x5, .int x6, .null] [] (cd_mm L w I J) = some r := by
  refine cd_q121_0 ?_
  simp only [cd_zwI, cd_zwL, cd_zI, cd_zJ, cd_zcp, true_and, if_true, cd_zk_21, cd_zR_21_0, cd_zk_22]
  exact h
set_option maxRecDepth 1000000 in
set_option maxHeartbeats 8000000 in
theorem cd_s121_4 {x4 : Int32} {x5 : Int32} {x6 : Int32} {p : Nat} (hp : p = 66 ∨ p = 83) {L : Nat} {w : Bool} {I : Nat → Nat → Int32} {J : Nat → Nat → Int64} {r : cd_Ret} (h : (cd_go 121 6 [.ref 21, .ref 5, .ref p, .ref 45, .int x4, .int x5, .int x6, .int 0] [] (cd_mm L w I J)) = some r) : cd_go 121 4 [.ref 21, .ref 5, .ref p, .ref 45, .int x4, .int x5, .int x6, .null] [] (cd_mm L w I J) = some r := cd_q121_4 h
set_option maxRecDepth 1000000 in
set_option maxHeartbeats 8000000 in
theorem cd_s121_6 {x4 : Int32} {x5 : Int32} {x6 : Int32} {x7 : Int32} {p : Nat} (hp : p = 66 ∨ p = 83) {L : Nat} {w : Bool} {I : Nat → Nat → Int32} {J : Nat → Nat → Int64} {r : cd_Ret} (h : (if x7 < (I p 2) then (if (((x4.toUInt32 >>> (x7.toUInt32 &&& Int32.toUInt32 31)).toInt32) &&& 1) = 0 then (cd_go 121 22 [.ref 21, .ref 5, .ref p, .ref 45, .int x4, .int x5, .int x6, .int x7] [] (cd_mm L w I J)) else (cd_cv (cd_c 32 [.ref 22, .int x7, .int 3, .int 0] (cd_mm L w I J))).bind fun m => cd_go 121 22 [.ref 21, .ref 5, .ref p, .ref 45, .int x4, .int x5, .int x6, .int x7] [] m) else (cd_ci (cd_c 79 [.ref 5, .ref p, .ref 22, .int x5, .int x6] (cd_mm L w I J))).bind fun q => cd_go 121 31 [.ref 21, .ref 5, .ref p, .ref 45, .int x4, .int x5, .int x6, .int x7] [.int q.1] q.2) = some r) : cd_go 121 6 [.ref 21, .ref 5, .ref p, .ref 45, .int x4, .int x5, .int x6, .int x7] [] (cd_mm L w I J) = some r := by
  refine cd_q121_6 ?_
  simp only [cd_zwI, cd_zwL, cd_zI, cd_zJ, cd_zcp, true_and, if_true, cd_zk_p0_66_83 hp, cd_zk_21, cd_zR_21_0, cd_zk_22, cd_zk_5]
  exact h
set_option maxRecDepth 1000000 in
set_option maxHeartbeats 8000000 in
theorem cd_s121_22 {x4 : Int32} {x5 : Int32} {x6 : Int32} {x7 : Int32} {p : Nat} (hp : p = 66 ∨ p = 83) {L : Nat} {w : Bool} {I : Nat → Nat → Int32} {J : Nat → Nat → Int64} {r : cd_Ret} (h : (cd_go 121 6 [.ref 21, .ref 5, .ref p, .ref 45, .int x4, .int x5, .int x6, .int (x7 + 1)] [] (cd_mm L w I J)) = some r) : cd_go 121 22 [.ref 21, .ref 5, .ref p, .ref 45, .int x4, .int x5, .int x6, .int x7] [] (cd_mm L w I J) = some r := cd_q121_22 h
set_option maxRecDepth 1000000 in
set_option maxHeartbeats 8000000 in
theorem cd_s121_31 {x4 : Int32} {x5 : Int32} {x6 : Int32} {x7 : Int32} {s0 : Int32} {p : Nat} (hp : p = 66 ∨ p = 83) {L : Nat} {w : Bool} {I : Nat → Nat → Int32} {J : Nat → Nat → Int64} {r : cd_Ret} (h : (if s0 &&& 1 = s0 then some (some (.int s0), (cd_mm L w I J)) else none) = some r) : cd_go 121 31 [.ref 21, .ref 5, .ref p, .ref 45, .int x4, .int x5, .int x6, .int x7] [.int s0] (cd_mm L w I J) = some r := cd_q121_31 h
set_option maxRecDepth 1000000 in
set_option maxHeartbeats 8000000 in
theorem cd_s122_0 {x4 : Int32} {x5 : Int32} {p : Nat} (hp : p = 66 ∨ p = 83) {L : Nat} {w : Bool} {I : Nat → Nat → Int32} {J : Nat → Nat → Int64} {r : cd_Ret} (h : (cd_go 122 2 [.ref 21, .ref 5, .ref p, .ref 45, .int x4, .int x5, .int 0, .null, .null] [] (cd_mm L w I J)) = some r) : cd_go 122 0 [.ref 21, .ref 5, .ref p, .ref 45, .int x4, .int x5, .null, .null, .null] [] (cd_mm L w I J) = some r := cd_q122_0 h
set_option maxRecDepth 1000000 in
set_option maxHeartbeats 8000000 in
theorem cd_s122_2 {x4 : Int32} {x5 : Int32} {x6 : Int32} {w7 : Value} {w8 : Value} {p : Nat} (hp : p = 66 ∨ p = 83) {L : Nat} {w : Bool} {I : Nat → Nat → Int32} {J : Nat → Nat → Int64} {r : cd_Ret} (h : (if 2 < x6 then (some (some (.int (-1)), (cd_mm L w I J))) else cd_go 122 7 [.ref 21, .ref 5, .ref p, .ref 45, .int x4, .int x5, .int x6, .int 0, w8] [] (cd_mm L w I J)) = some r) : cd_go 122 2 [.ref 21, .ref 5, .ref p, .ref 45, .int x4, .int x5, .int x6, w7, w8] [] (cd_mm L w I J) = some r := cd_q122_2 h
set_option maxRecDepth 1000000 in
set_option maxHeartbeats 8000000 in
theorem cd_s122_7 {x4 : Int32} {x5 : Int32} {x6 : Int32} {x7 : Int32} {w8 : Value} {p : Nat} (hp : p = 66 ∨ p = 83) {L : Nat} {w : Bool} {I : Nat → Nat → Int32} {J : Nat → Nat → Int64} {r : cd_Ret} (h : (if x7 < ((1 : Int32) <<< ((I p 2) &&& 31)) then ((cd_ci (cd_c 47 [.int x7] (cd_mm L w I J))).bind fun q => cd_go 122 15 [.ref 21, .ref 5, .ref p, .ref 45, .int x4, .int x5, .int x6, .int x7, w8] [.int q.1] q.2) else cd_go 122 2 [.ref 21, .ref 5, .ref p, .ref 45, .int x4, .int x5, .int (x6 + 1), .int x7, w8] [] (cd_mm L w I J)) = some r) : cd_go 122 7 [.ref 21, .ref 5, .ref p, .ref 45, .int x4, .int x5, .int x6, .int x7, w8] [] (cd_mm L w I J) = some r := by
  refine cd_q122_7 ?_
  simp only [cd_zwI, cd_zwL, cd_zI, cd_zJ, cd_zcp, true_and, if_true, cd_zk_p0_66_83 hp]
  exact h
set_option maxRecDepth 1000000 in
set_option maxHeartbeats 8000000 in
theorem cd_s122_15 {x4 : Int32} {x5 : Int32} {x6 : Int32} {x7 : Int32} {w8 : Value} {s0 : Int32} {p : Nat} (hp : p = 66 ∨ p = 83) {L : Nat} {w : Bool} {I : Nat → Nat → Int32} {J : Nat → Nat → Int64} {r : cd_Ret} (h : (if s0 = x6 then (if (x7 &&& ((I 45 2) ^^^ (-1))) = 0 then ((cd_ci (cd_c 121 [.ref 21, .ref 5, .ref p, .ref 45, .int x7, .int x4, .int x5] (cd_mm L w I J))).bind fun q => cd_go 122 38 [.ref 21, .ref 5, .ref p, .ref 45, .int x4, .int x5, .int x6, .int x7, .int 1] [.int q.1] q.2) else cd_go 122 7 [.ref 21, .ref 5, .ref p, .ref 45, .int x4, .int x5, .int x6, .int (x7 + 1), .int 0] [] (cd_mm L w I J)) else cd_go 122 7 [.ref 21, .ref 5, .ref p, .ref 45, .int x4, .int x5, .int x6, .int (x7 + 1), .int 0] [] (cd_mm L w I J)) = some r) : cd_go 122 15 [.ref 21, .ref 5, .ref p, .ref 45, .int x4, .int x5, .int x6, .int x7, w8] [.int s0] (cd_mm L w I J) = some r := by
  refine cd_q122_15 ?_
  simp only [cd_zwI, cd_zwL, cd_zI, cd_zJ, cd_zcp, true_and, if_true, cd_zk_45, cd_zk_21]
  exact h
set_option maxRecDepth 1000000 in
set_option maxHeartbeats 8000000 in
theorem cd_s122_38 {x4 : Int32} {x5 : Int32} {x6 : Int32} {x7 : Int32} {x8 : Int32} {s0 : Int32} {p : Nat} (hp : p = 66 ∨ p = 83) {L : Nat} {w : Bool} {I : Nat → Nat → Int32} {J : Nat → Nat → Int64} {r : cd_Ret} (h : (if s0 = 0 then (cd_go 122 7 [.ref 21, .ref 5, .ref p, .ref 45, .int x4, .int x5, .int x6, .int (x7 + 1), .int x8] [] (cd_mm L w I J)) else some (some (.int x7), (cd_mm L w I J))) = some r) : cd_go 122 38 [.ref 21, .ref 5, .ref p, .ref 45, .int x4, .int x5, .int x6, .int x7, .int x8] [.int s0] (cd_mm L w I J) = some r := cd_q122_38 h
set_option maxRecDepth 1000000 in
set_option maxHeartbeats 8000000 in
theorem cd_s123_0 {x1 : Int32} {x2 : Int32} {L : Nat} {w : Bool} {I : Nat → Nat → Int32} {J : Nat → Nat → Int64} {r : cd_Ret} (h : ((cd_ci (cd_c 49 [.ref 2, .int x1] (cd_mm L w I J))).bind fun q => cd_go 123 3 [.ref 2, .int x1, .int x2] [.int q.1] q.2) = some r) : cd_go 123 0 [.ref 2, .int x1, .int x2] [] (cd_mm L w I J) = some r := by
  refine cd_q123_0 ?_
  simp only [cd_zwI, cd_zwL, cd_zI, cd_zJ, cd_zcp, true_and, if_true, cd_zk_2]
  exact h
set_option maxRecDepth 1000000 in
set_option maxHeartbeats 8000000 in
theorem cd_s123_3 {x1 : Int32} {x2 : Int32} {s0 : Int32} {L : Nat} {w : Bool} {I : Nat → Nat → Int32} {J : Nat → Nat → Int64} {r : cd_Ret} (h : (if s0 = 0 then (some (some (.int (-1001)), (cd_mm L w I J))) else (cd_ci (cd_c 74 [.int x2] (cd_mm L w I J))).bind fun q => cd_go 123 8 [.ref 2, .int x1, .int x2] [.int q.1] q.2) = some r) : cd_go 123 3 [.ref 2, .int x1, .int x2] [.int s0] (cd_mm L w I J) = some r := cd_q123_3 h
set_option maxRecDepth 1000000 in
set_option maxHeartbeats 8000000 in
theorem cd_s123_8 {x1 : Int32} {x2 : Int32} {s0 : Int32} {L : Nat} {w : Bool} {I : Nat → Nat → Int32} {J : Nat → Nat → Int64} {r : cd_Ret} (h : (if s0 = 0 then (some (some (.int (-1002)), (cd_mm L w I J))) else (cd_ci (cd_c 122 [.ref 21, .ref 5, .ref (cd_ple w), .ref 45, .int x1, .int x2] (cd_mm L w I J))).bind fun q => cd_go 123 20 [.ref 2, .int x1, .int x2] [.int q.1] q.2) = some r) : cd_go 123 8 [.ref 2, .int x1, .int x2] [.int s0] (cd_mm L w I J) = some r := by
  refine cd_q123_8 ?_
  simp only [cd_zwI, cd_zwL, cd_zI, cd_zJ, cd_zcp, true_and, if_true, cd_zk_2, cd_zR_2_2, cd_zR_2_1, cd_zR_2_12, cd_zR_2_6, cd_zk_21]
  exact h
set_option maxRecDepth 1000000 in
set_option maxHeartbeats 8000000 in
theorem cd_s123_20 {x1 : Int32} {x2 : Int32} {s0 : Int32} {L : Nat} {w : Bool} {I : Nat → Nat → Int32} {J : Nat → Nat → Int64} {r : cd_Ret} (h : (some (some (.int s0), (cd_mm L w I J))) = some r) : cd_go 123 20 [.ref 2, .int x1, .int x2] [.int s0] (cd_mm L w I J) = some r := cd_q123_20 h
set_option maxRecDepth 1000000 in
set_option maxHeartbeats 8000000 in
theorem cd_s124_0 {x1 : Int32} {x2 : Int32} {x3 : Int32} {L : Nat} {w : Bool} {I : Nat → Nat → Int32} {J : Nat → Nat → Int64} {r : cd_Ret} (h : ((cd_ci (cd_c 64 [.ref 2, .int x1] (cd_mm L w I J))).bind fun q => cd_go 124 3 [.ref 2, .int x1, .int x2, .int x3, .null] [.int q.1] q.2) = some r) : cd_go 124 0 [.ref 2, .int x1, .int x2, .int x3, .null] [] (cd_mm L w I J) = some r := by
  refine cd_q124_0 ?_
  simp only [cd_zwI, cd_zwL, cd_zI, cd_zJ, cd_zcp, true_and, if_true, cd_zk_2]
  exact h
set_option maxRecDepth 1000000 in
set_option maxHeartbeats 8000000 in
theorem cd_s124_3 {x1 : Int32} {x2 : Int32} {x3 : Int32} {s0 : Int32} {L : Nat} {w : Bool} {I : Nat → Nat → Int32} {J : Nat → Nat → Int64} {r : cd_Ret} (h : (if s0 = 0 then (some (some (.int (-1001)), (cd_mm L w I J))) else if x2 < 0 then (some (some (.int (-1002)), (cd_mm L w I J))) else if 4 < x2 then (some (some (.int (-1002)), (cd_mm L w I J))) else if x2 = 2 then (if x3 < 1 then (some (some (.int (-1002)), (cd_mm L w I J))) else if 99 < x3 then (some (some (.int (-1002)), (cd_mm L w I J))) else cd_go 124 22 [.ref 2, .int x1, .int x2, .int x3, .null] [] (cd_mm L w I J)) else cd_go 124 22 [.ref 2, .int x1, .int x2, .int x3, .null] [] (cd_mm L w I J)) = some r) : cd_go 124 3 [.ref 2, .int x1, .int x2, .int x3, .null] [.int s0] (cd_mm L w I J) = some r := cd_q124_3 h
set_option maxRecDepth 1000000 in
set_option maxHeartbeats 8000000 in
theorem cd_s124_22 {x1 : Int32} {x2 : Int32} {x3 : Int32} {L : Nat} {w : Bool} {I : Nat → Nat → Int32} {J : Nat → Nat → Int64} {r : cd_Ret} (h : ((cd_ci (cd_c 30 [.ref (cd_ple w), .ref 45, .int x1] (cd_mm L w I J))).bind fun q => cd_go 124 28 [.ref 2, .int x1, .int x2, .int x3, .null] [.int q.1] q.2) = some r) : cd_go 124 22 [.ref 2, .int x1, .int x2, .int x3, .null] [] (cd_mm L w I J) = some r := by
  refine cd_q124_22 ?_
  simp only [cd_zwI, cd_zwL, cd_zI, cd_zJ, cd_zcp, true_and, if_true, cd_zk_2, cd_zR_2_12, cd_zR_2_6, cd_zk_w0_]
  exact h
set_option maxRecDepth 1000000 in
set_option maxHeartbeats 8000000 in
theorem cd_s124_28 {x1 : Int32} {x2 : Int32} {x3 : Int32} {s0 : Int32} {L : Nat} {w : Bool} {I : Nat → Nat → Int32} {J : Nat → Nat → Int64} {r : cd_Ret} (h : (if s0 = 0 then (some (some (.int (-1003)), (cd_mm L w I J))) else if cd_in x1 12 = true then (if cd_in x1 12 = true then (if x2 = 2 then (if cd_in x1 12 = true then (some (some (.int (I 47 x1.toNatClampNeg)), (cd_mm L w (cd_up (cd_up (cd_up I 47 x1.toNatClampNeg x2) 48 x1.toNatClampNeg x3) 45 2 (((cd_up (cd_up I 47 x1.toNatClampNeg x2) 48 x1.toNatClampNeg x3) 45 2) ||| ((1 : Int32) <<< (x1 &&& 31)))) J))) else none) else if cd_in x1 12 = true then (some (some (.int (I 47 x1.toNatClampNeg)), (cd_mm L w (cd_up (cd_up (cd_up I 47 x1.toNatClampNeg x2) 48 x1.toNatClampNeg 0) 45 2 (((cd_up (cd_up I 47 x1.toNatClampNeg x2) 48 x1.toNatClampNeg 0) 45 2) ||| ((1 : Int32) <<< (x1 &&& 31)))) J))) else none) else none) else none) = some r) : cd_go 124 28 [.ref 2, .int x1, .int x2, .int x3, .null] [.int s0] (cd_mm L w I J) = some r := by
  refine cd_q124_28 ?_
  simp only [cd_zwI, cd_zwL, cd_zI, cd_zJ, cd_zcp, true_and, if_true, cd_zk_2, cd_zR_2_6, cd_zk_45, cd_zR_45_3, cd_zk_47, cd_zn_47, cd_zR_45_4, cd_zk_48, cd_zn_48]
  exact h
set_option maxRecDepth 1000000 in
set_option maxHeartbeats 8000000 in
theorem cd_s125_0 {x2 : Int32} {p : Nat} (hp : p = 66 ∨ p = 83) {L : Nat} {w : Bool} {I : Nat → Nat → Int32} {J : Nat → Nat → Int64} {r : cd_Ret} (h : (if cd_in x2 256 = true then (if cd_in x2 256 = true then (cd_go 125 12 [.ref 32, .ref p, .int x2, .int 0] [] (cd_mm L w (cd_up (cd_up I 33 x2.toNatClampNeg 0) 34 x2.toNatClampNeg 0) J)) else none) else none) = some r) : cd_go 125 0 [.ref 32, .ref p, .int x2, .null] [] (cd_mm L w I J) = some r := by
  refine cd_q125_0 ?_
  simp only [cd_zwI, cd_zwL, cd_zI, cd_zJ, cd_zcp, true_and, if_true, cd_zk_32, cd_zR_32_0, cd_zk_33, cd_zn_33, cd_zR_32_1, cd_zk_34, cd_zn_34]
  exact h
set_option maxRecDepth 1000000 in
set_option maxHeartbeats 8000000 in
theorem cd_s125_12 {x2 : Int32} {x3 : Int32} {p : Nat} (hp : p = 66 ∨ p = 83) {L : Nat} {w : Bool} {I : Nat → Nat → Int32} {J : Nat → Nat → Int64} {r : cd_Ret} (h : (if x3 < (I p 0) then (if (((x2.toUInt32 >>> (x3.toUInt32 &&& Int32.toUInt32 31)).toInt32) &&& 1) = 0 then (cd_go 125 12 [.ref 32, .ref p, .int x2, .int (x3 + 1)] [] (cd_mm L w I J)) else if cd_in x2 256 = true then (if cd_in x3 8 = true then (if cd_in x2 256 = true then (if cd_in x2 256 = true then (if cd_in x3 8 = true then (if cd_in x2 256 = true then (cd_go 125 12 [.ref 32, .ref p, .int x2, .int (x3 + 1)] [] (cd_mm L w (cd_up (cd_up I 33 x2.toNatClampNeg ((I 33 x2.toNatClampNeg) + (I (p + 2) x3.toNatClampNeg))) 34 x2.toNatClampNeg (((cd_up I 33 x2.toNatClampNeg ((I 33 x2.toNatClampNeg) + (I (p + 2) x3.toNatClampNeg))) 34 x2.toNatClampNeg) + ((cd_up I 33 x2.toNatClampNeg ((I 33 x2.toNatClampNeg) + (I (p + 2) x3.toNatClampNeg))) (p + 1) x3.toNatClampNeg))) J)) else none) else none) else none) else none) else none) else none) else some (none, (cd_mm L w I J))) = some r) : cd_go 125 12 [.ref 32, .ref p, .int x2, .int x3] [] (cd_mm L w I J) = some r := by
  refine cd_q125_12 ?_
  simp only [cd_zwI, cd_zwL, cd_zI, cd_zJ, cd_zcp, true_and, if_true, cd_zk_p0_66_83 hp, cd_zk_32, cd_zR_32_0, cd_zk_33, cd_zn_33, cd_zR_p0_66_83_5 hp, cd_zk_p2_66_83 hp, cd_zn_p2_66_83 hp, cd_zR_32_1, cd_zk_34, cd_zn_34, cd_zR_p0_66_83_4 hp, cd_zk_p1_66_83 hp, cd_zn_p1_66_83 hp]
  exact h
