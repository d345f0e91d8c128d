set_option maxRecDepth 1000000 in
set_option maxHeartbeats 8000000 in
theorem cd_s210_0 {x0 : Int32} {L : Nat} {w : Bool} {I : Nat → Nat → Int32} {J : Nat → Nat → Int64} {r : cd_Ret} (h : ((cd_ci (cd_c 138 [.long x0.toInt64, .long 1, .long 20] (cd_mm L w I J))).bind fun q => cd_go 210 5 [.int x0] [.int q.1] q.2) = some r) : cd_go 210 0 [.int x0] [] (cd_mm L w I J) = some r := cd_q210_0 h
set_option maxRecDepth 1000000 in
set_option maxHeartbeats 8000000 in
theorem cd_s210_5 {x0 : Int32} {s0 : Int32} {L : Nat} {w : Bool} {I : Nat → Nat → Int32} {J : Nat → Nat → Int64} {r : cd_Ret} (h : (if s0 &&& 1 = s0 then some (some (.int s0), (cd_mm L w I J)) else none) = some r) : cd_go 210 5 [.int x0] [.int s0] (cd_mm L w I J) = some r := cd_q210_5 h
set_option maxRecDepth 1000000 in
set_option maxHeartbeats 8000000 in
theorem cd_s211_0 {x1 : Int32} {L : Nat} {w : Bool} {I : Nat → Nat → Int32} {J : Nat → Nat → Int64} {r : cd_Ret} (h : (if x1 < 0 then (cd_go 211 7 [.ref 100, .int x1] [.int 0] (cd_mm L w I J)) else (cd_ci (cd_c 204 [.ref 100, .int x1] (cd_mm L w I J))).bind fun q => cd_go 211 7 [.ref 100, .int x1] [.int q.1] q.2) = some r) : cd_go 211 0 [.ref 100, .int x1] [] (cd_mm L w I J) = some r := by
  refine cd_q211_0 ?_
  simp only [cd_zwI, cd_zwL, cd_zI, cd_zJ, cd_zcp, true_and, if_true, cd_zk_100]
  exact h
set_option maxRecDepth 1000000 in
set_option maxHeartbeats 8000000 in
theorem cd_s211_7 {x1 : Int32} {s0 : Int32} {L : Nat} {w : Bool} {I : Nat → Nat → Int32} {J : Nat → Nat → Int64} {r : cd_Ret} (h : (some (some (.int s0), (cd_mm L w I J))) = some r) : cd_go 211 7 [.ref 100, .int x1] [.int s0] (cd_mm L w I J) = some r := cd_q211_7 h
set_option maxRecDepth 1000000 in
set_option maxHeartbeats 8000000 in
theorem cd_s212_0 {x1 : Int32} {x2 : Int32} {L : Nat} {w : Bool} {I : Nat → Nat → Int32} {J : Nat → Nat → Int64} {r : cd_Ret} (h : ((cd_ci (cd_c 210 [.int x1] (cd_mm L w I J))).bind fun q => cd_go 212 2 [.ref 100, .int x1, .int x2, .null] [.int q.1] q.2) = some r) : cd_go 212 0 [.ref 100, .int x1, .int x2, .null] [] (cd_mm L w I J) = some r := cd_q212_0 h
set_option maxRecDepth 1000000 in
set_option maxHeartbeats 8000000 in
theorem cd_s212_2 {x1 : Int32} {x2 : Int32} {s0 : Int32} {L : Nat} {w : Bool} {I : Nat → Nat → Int32} {J : Nat → Nat → Int64} {r : cd_Ret} (h : (if s0 = 0 then (some (some (.int (-1002)), (cd_mm L w I J))) else (cd_ci (cd_c 138 [.long x2.toInt64, .long 0, .long 3] (cd_mm L w I J))).bind fun q => cd_go 212 8 [.ref 100, .int x1, .int x2, .null] [.int q.1] q.2) = some r) : cd_go 212 2 [.ref 100, .int x1, .int x2, .null] [.int s0] (cd_mm L w I J) = some r := cd_q212_2 h
set_option maxRecDepth 1000000 in
set_option maxHeartbeats 8000000 in
theorem cd_s212_8 {x1 : Int32} {x2 : Int32} {s0 : Int32} {L : Nat} {w : Bool} {I : Nat → Nat → Int32} {J : Nat → Nat → Int64} {r : cd_Ret} (h : (if s0 = 0 then (some (some (.int (-1002)), (cd_mm L w I J))) else (cd_ci (cd_c 205 [.ref 100, .int x1] (cd_mm L w I J))).bind fun q => cd_go 212 14 [.ref 100, .int x1, .int x2, .null] [.int q.1] q.2) = some r) : cd_go 212 8 [.ref 100, .int x1, .int x2, .null] [.int s0] (cd_mm L w I J) = some r := by
  refine cd_q212_8 ?_
  simp only [cd_zwI, cd_zwL, cd_zI, cd_zJ, cd_zcp, true_and, if_true, cd_zk_100]
  exact h
set_option maxRecDepth 1000000 in
set_option maxHeartbeats 8000000 in
theorem cd_s212_14 {x1 : Int32} {x2 : Int32} {s0 : Int32} {L : Nat} {w : Bool} {I : Nat → Nat → Int32} {J : Nat → Nat → Int64} {r : cd_Ret} (h : (if x2 = 0 then ((cd_ci (cd_c 211 [.ref 100, .int s0] (cd_mm L w I J))).bind fun q => cd_go 212 20 [.ref 100, .int x1, .int x2, .int s0] [.int q.1] q.2) else if x2 = 1 then (cd_go 212 36 [.ref 100, .int x1, .int x2, .int s0] [.int s0] (cd_mm L w I J)) else if x2 = 2 then ((cd_ci (cd_c 208 [.ref 100, .int s0] (cd_mm L w I J))).bind fun q => cd_go 212 32 [.ref 100, .int x1, .int x2, .int s0] [.int q.1] q.2) else (cd_ci (cd_c 209 [.ref 100, .int s0] (cd_mm L w I J))).bind fun q => cd_go 212 36 [.ref 100, .int x1, .int x2, .int s0] [.int q.1] q.2) = some r) : cd_go 212 14 [.ref 100, .int x1, .int x2, .null] [.int s0] (cd_mm L w I J) = some r := by
  refine cd_q212_14 ?_
  simp only [cd_zwI, cd_zwL, cd_zI, cd_zJ, cd_zcp, true_and, if_true, cd_zk_100]
  exact h
set_option maxRecDepth 1000000 in
set_option maxHeartbeats 8000000 in
theorem cd_s212_20 {x1 : Int32} {x2 : Int32} {x3 : Int32} {s0 : Int32} {L : Nat} {w : Bool} {I : Nat → Nat → Int32} {J : Nat → Nat → Int64} {r : cd_Ret} (h : (cd_go 212 36 [.ref 100, .int x1, .int x2, .int x3] [.int s0] (cd_mm L w I J)) = some r) : cd_go 212 20 [.ref 100, .int x1, .int x2, .int x3] [.int s0] (cd_mm L w I J) = some r := cd_q212_20 h
set_option maxRecDepth 1000000 in
set_option maxHeartbeats 8000000 in
theorem cd_s212_32 {x1 : Int32} {x2 : Int32} {x3 : Int32} {s0 : Int32} {L : Nat} {w : Bool} {I : Nat → Nat → Int32} {J : Nat → Nat → Int64} {r : cd_Ret} (h : (cd_go 212 36 [.ref 100, .int x1, .int x2, .int x3] [.int s0] (cd_mm L w I J)) = some r) : cd_go 212 32 [.ref 100, .int x1, .int x2, .int x3] [.int s0] (cd_mm L w I J) = some r := cd_q212_32 h
set_option maxRecDepth 1000000 in
set_option maxHeartbeats 8000000 in
theorem cd_s212_36 {x1 : Int32} {x2 : Int32} {x3 : Int32} {s0 : Int32} {L : Nat} {w : Bool} {I : Nat → Nat → Int32} {J : Nat → Nat → Int64} {r : cd_Ret} (h : (some (some (.int s0), (cd_mm L w I J))) = some r) : cd_go 212 36 [.ref 100, .int x1, .int x2, .int x3] [.int s0] (cd_mm L w I J) = some r := cd_q212_36 h
set_option maxRecDepth 1000000 in
set_option maxHeartbeats 8000000 in
theorem cd_s213_0 {x1 : Int32} {L : Nat} {w : Bool} {I : Nat → Nat → Int32} {J : Nat → Nat → Int64} {r : cd_Ret} (h : ((cd_ci (cd_c 210 [.int x1] (cd_mm L w I J))).bind fun q => cd_go 213 2 [.ref 100, .int x1, .null, .null, .null, .null] [.int q.1] q.2) = some r) : cd_go 213 0 [.ref 100, .int x1, .null, .null, .null, .null] [] (cd_mm L w I J) = some r := cd_q213_0 h
set_option maxRecDepth 1000000 in
set_option maxHeartbeats 8000000 in
theorem cd_s213_2 {x1 : Int32} {s0 : Int32} {L : Nat} {w : Bool} {I : Nat → Nat → Int32} {J : Nat → Nat → Int64} {r : cd_Ret} (h : (if s0 = 0 then (some (some (.long (-1002)), (cd_mm L w I J))) else (cd_ci (cd_c 205 [.ref 100, .int x1] (cd_mm L w I J))).bind fun q => cd_go 213 8 [.ref 100, .int x1, .null, .null, .null, .null] [.int q.1] q.2) = some r) : cd_go 213 2 [.ref 100, .int x1, .null, .null, .null, .null] [.int s0] (cd_mm L w I J) = some r := by
  refine cd_q213_2 ?_
  simp only [cd_zwI, cd_zwL, cd_zI, cd_zJ, cd_zcp, true_and, if_true, cd_zk_100]
  exact h
set_option maxRecDepth 1000000 in
set_option maxHeartbeats 8000000 in
theorem cd_s213_8 {x1 : Int32} {s0 : Int32} {L : Nat} {w : Bool} {I : Nat → Nat → Int32} {J : Nat → Nat → Int64} {r : cd_Ret} (h : (cd_go 213 13 [.ref 100, .int x1, .int s0, .long 0, .null, .int 0] [] (cd_mm L w I J)) = some r) : cd_go 213 8 [.ref 100, .int x1, .null, .null, .null, .null] [.int s0] (cd_mm L w I J) = some r := cd_q213_8 h
set_option maxRecDepth 1000000 in
set_option maxHeartbeats 8000000 in
theorem cd_s213_13 {x1 : Int32} {x2 : Int32} {y3 : Int64} {x5 : Int32} {L : Nat} {w : Bool} {I : Nat → Nat → Int32} {J : Nat → Nat → Int64} {r : cd_Ret} (h : (if x5 < 64 then (if x2 < 0 then (some (some (.long y3), (cd_mm L w I J))) else if cd_in x5 64 = true then (if (I 124 x5.toNatClampNeg) = x2 then (cd_go 213 13 [.ref 100, .int x1, .int x2, .long (y3 ||| ((1 : Int64) <<< (x5.toInt64 &&& 63))), .null, .int (x5 + 1)] [] (cd_mm L w I J)) else cd_go 213 13 [.ref 100, .int x1, .int x2, .long (y3 ||| 0), .null, .int (x5 + 1)] [] (cd_mm L w I J)) else none) else some (some (.long y3), (cd_mm L w I J))) = some r) : cd_go 213 13 [.ref 100, .int x1, .int x2, .long y3, .null, .int x5] [] (cd_mm L w I J) = some r := by
  refine cd_q213_13 ?_
  simp only [cd_zwI, cd_zwL, cd_zI, cd_zJ, cd_zcp, true_and, if_true, cd_zk_100, cd_zR_100_45, cd_zk_124, cd_zn_124]
  exact h
set_option maxRecDepth 1000000 in
set_option maxHeartbeats 8000000 in
theorem cd_s214_0 {x1 : Int32} {L : Nat} {w : Bool} {I : Nat → Nat → Int32} {J : Nat → Nat → Int64} {r : cd_Ret} (h : ((cd_ci (cd_c 210 [.int x1] (cd_mm L w I J))).bind fun q => cd_go 214 2 [.ref 100, .int x1, .null, .null] [.int q.1] q.2) = some r) : cd_go 214 0 [.ref 100, .int x1, .null, .null] [] (cd_mm L w I J) = some r := cd_q214_0 h
set_option maxRecDepth 1000000 in
set_option maxHeartbeats 8000000 in
theorem cd_s214_2 {x1 : Int32} {s0 : Int32} {L : Nat} {w : Bool} {I : Nat → Nat → Int32} {J : Nat → Nat → Int64} {r : cd_Ret} (h : (if s0 = 0 then (some (some (.int (-1002)), (cd_mm L w I J))) else (cd_cv (cd_c 203 [.ref 100, .int x1] (cd_mm L w I J))).bind fun m => cd_go 214 8 [.ref 100, .int x1, .null, .null] [] m) = some r) : cd_go 214 2 [.ref 100, .int x1, .null, .null] [.int s0] (cd_mm L w I J) = some r := by
  refine cd_q214_2 ?_
  simp only [cd_zwI, cd_zwL, cd_zI, cd_zJ, cd_zcp, true_and, if_true, cd_zk_100]
  exact h
set_option maxRecDepth 1000000 in
set_option maxHeartbeats 8000000 in
theorem cd_s214_8 {x1 : Int32} {L : Nat} {w : Bool} {I : Nat → Nat → Int32} {J : Nat → Nat → Int64} {r : cd_Ret} (h : (cd_go 214 12 [.ref 100, .int x1, .int 0, .int 0] [] (cd_mm L w I J)) = some r) : cd_go 214 8 [.ref 100, .int x1, .null, .null] [] (cd_mm L w I J) = some r := cd_q214_8 h
set_option maxRecDepth 1000000 in
set_option maxHeartbeats 8000000 in
theorem cd_s214_12 {x1 : Int32} {x2 : Int32} {x3 : Int32} {L : Nat} {w : Bool} {I : Nat → Nat → Int32} {J : Nat → Nat → Int64} {r : cd_Ret} (h : (if x3 < 64 then (if cd_in x3 64 = true then (if (I 124 x3.toNatClampNeg) = x3 then (cd_go 214 12 [.ref 100, .int x1, .int (x2 + 1), .int (x3 + 1)] [] (cd_mm L w I J)) else cd_go 214 12 [.ref 100, .int x1, .int (x2 + 0), .int (x3 + 1)] [] (cd_mm L w I J)) else none) else some (some (.int x2), (cd_mm L w I J))) = some r) : cd_go 214 12 [.ref 100, .int x1, .int x2, .int x3] [] (cd_mm L w I J) = some r := by
  refine cd_q214_12 ?_
  simp only [cd_zwI, cd_zwL, cd_zI, cd_zJ, cd_zcp, true_and, if_true, cd_zk_100, cd_zR_100_45, cd_zk_124, cd_zn_124]
  exact h
set_option maxRecDepth 1000000 in
set_option maxHeartbeats 8000000 in
theorem cd_s215_0 {x1 : Int32} {L : Nat} {w : Bool} {I : Nat → Nat → Int32} {J : Nat → Nat → Int64} {r : cd_Ret} (h : ((cd_ci (cd_c 140 [.int x1] (cd_mm L w I J))).bind fun q => cd_go 215 2 [.ref 100, .int x1] [.int q.1] q.2) = some r) : cd_go 215 0 [.ref 100, .int x1] [] (cd_mm L w I J) = some r := cd_q215_0 h
set_option maxRecDepth 1000000 in
set_option maxHeartbeats 8000000 in
theorem cd_s215_2 {x1 : Int32} {s0 : Int32} {L : Nat} {w : Bool} {I : Nat → Nat → Int32} {J : Nat → Nat → Int64} {r : cd_Ret} (h : (if s0 = 0 then (some (some (.int (-1001)), (cd_mm L w I J))) else (cd_ci (cd_c 206 [.ref 100, .int x1] (cd_mm L w I J))).bind fun q => cd_go 215 6 [.ref 100, .int x1] [.int q.1] q.2) = some r) : cd_go 215 2 [.ref 100, .int x1] [.int s0] (cd_mm L w I J) = some r := by
  refine cd_q215_2 ?_
  simp only [cd_zwI, cd_zwL, cd_zI, cd_zJ, cd_zcp, true_and, if_true, cd_zk_100]
  exact h
set_option maxRecDepth 1000000 in
set_option maxHeartbeats 8000000 in
theorem cd_s215_6 {x1 : Int32} {s0 : Int32} {L : Nat} {w : Bool} {I : Nat → Nat → Int32} {J : Nat → Nat → Int64} {r : cd_Ret} (h : (some (some (.int s0), (cd_mm L w I J))) = some r) : cd_go 215 6 [.ref 100, .int x1] [.int s0] (cd_mm L w I J) = some r := cd_q215_6 h
set_option maxRecDepth 1000000 in
set_option maxHeartbeats 8000000 in
theorem cd_s216_0 {x1 : Int32} {L : Nat} {w : Bool} {I : Nat → Nat → Int32} {J : Nat → Nat → Int64} {r : cd_Ret} (h : (cd_go 216 6 [.ref 100, .int x1, .int ((80 : Int32) * x1), .int 0] [] (cd_mm L w I J)) = some r) : cd_go 216 0 [.ref 100, .int x1, .null, .null] [] (cd_mm L w I J) = some r := cd_q216_0 h
set_option maxRecDepth 1000000 in
set_option maxHeartbeats 8000000 in
theorem cd_s216_6 {x1 : Int32} {x2 : Int32} {x3 : Int32} {L : Nat} {w : Bool} {I : Nat → Nat → Int32} {J : Nat → Nat → Int64} {r : cd_Ret} (h : (if x3 < 8 then (if cd_in x3 8 = true then (if cd_in (x2 + x3) 240 = true then (if cd_in x3 8 = true then (if ((cd_up I 125 (x2 + x3).toNatClampNeg (I 101 x3.toNatClampNeg)) 106 x3.toNatClampNeg) = 0 then (if cd_in ((x2 + 8) + x3) 240 = true then (cd_go 216 6 [.ref 100, .int x1, .int x2, .int (x3 + 1)] [] (cd_mm L w (cd_up (cd_up I 125 (x2 + x3).toNatClampNeg (I 101 x3.toNatClampNeg)) 125 ((x2 + 8) + x3).toNatClampNeg 0) J)) else none) else if cd_in ((x2 + 8) + x3) 240 = true then (cd_go 216 6 [.ref 100, .int x1, .int x2, .int (x3 + 1)] [] (cd_mm L w (cd_up (cd_up I 125 (x2 + x3).toNatClampNeg (I 101 x3.toNatClampNeg)) 125 ((x2 + 8) + x3).toNatClampNeg 1) J)) else none) else none) else none) else none) else cd_go 216 39 [.ref 100, .int x1, .int x2, .int 0] [] (cd_mm L w I J)) = some r) : cd_go 216 6 [.ref 100, .int x1, .int x2, .int x3] [] (cd_mm L w I J) = some r := by
  refine cd_q216_6 ?_
  simp only [cd_zwI, cd_zwL, cd_zI, cd_zJ, cd_zcp, true_and, if_true, cd_zk_100, cd_zR_100_46, cd_zR_100_1, cd_zk_101, cd_zn_101, cd_zk_125, cd_zn_125, cd_zR_100_6, cd_zk_106, cd_zn_106]
  exact h
set_option maxRecDepth 1000000 in
set_option maxHeartbeats 8000000 in
theorem cd_s216_39 {x1 : Int32} {x2 : Int32} {x3 : Int32} {L : Nat} {w : Bool} {I : Nat → Nat → Int32} {J : Nat → Nat → Int64} {r : cd_Ret} (h : (if x3 < 12 then (if cd_in x3 12 = true then (if (I 112 x3.toNatClampNeg) = 0 then (if cd_in ((x2 + 16) + x3) 240 = true then (if cd_in x3 12 = true then (if cd_in ((x2 + 28) + x3) 240 = true then (if cd_in x3 12 = true then (if cd_in ((x2 + 40) + x3) 240 = true then (cd_go 216 39 [.ref 100, .int x1, .int x2, .int (x3 + 1)] [] (cd_mm L w (cd_up (cd_up (cd_up I 125 ((x2 + 16) + x3).toNatClampNeg 0) 125 ((x2 + 28) + x3).toNatClampNeg ((cd_up I 125 ((x2 + 16) + x3).toNatClampNeg 0) 110 x3.toNatClampNeg)) 125 ((x2 + 40) + x3).toNatClampNeg ((cd_up (cd_up I 125 ((x2 + 16) + x3).toNatClampNeg 0) 125 ((x2 + 28) + x3).toNatClampNeg ((cd_up I 125 ((x2 + 16) + x3).toNatClampNeg 0) 110 x3.toNatClampNeg)) 111 x3.toNatClampNeg)) J)) else none) else none) else none) else none) else none) else if cd_in ((x2 + 16) + x3) 240 = true then (if cd_in x3 12 = true then (if cd_in ((x2 + 28) + x3) 240 = true then (if cd_in x3 12 = true then (if cd_in ((x2 + 40) + x3) 240 = true then (cd_go 216 39 [.ref 100, .int x1, .int x2, .int (x3 + 1)] [] (cd_mm L w (cd_up (cd_up (cd_up I 125 ((x2 + 16) + x3).toNatClampNeg 1) 125 ((x2 + 28) + x3).toNatClampNeg ((cd_up I 125 ((x2 + 16) + x3).toNatClampNeg 1) 110 x3.toNatClampNeg)) 125 ((x2 + 40) + x3).toNatClampNeg ((cd_up (cd_up I 125 ((x2 + 16) + x3).toNatClampNeg 1) 125 ((x2 + 28) + x3).toNatClampNeg ((cd_up I 125 ((x2 + 16) + x3).toNatClampNeg 1) 110 x3.toNatClampNeg)) 111 x3.toNatClampNeg)) J)) else none) else none) else none) else none) else none) else none) else if cd_in (x2 + 52) 240 = true then (some (none, (cd_mm L w (cd_up I 125 (x2 + 52).toNatClampNeg (I 100 56)) J))) else none) = some r) : cd_go 216 39 [.ref 100, .int x1, .int x2, .int x3] [] (cd_mm L w I J) = some r := by
  refine cd_q216_39 ?_
  simp only [cd_zwI, cd_zwL, cd_zI, cd_zJ, cd_zcp, true_and, if_true, cd_zk_100, cd_zR_100_46, cd_zR_100_14, cd_zk_112, cd_zn_112, cd_zk_125, cd_zn_125, cd_zR_100_12, cd_zk_110, cd_zn_110, cd_zR_100_13, cd_zk_111, cd_zn_111]
  exact h
set_option maxRecDepth 1000000 in
set_option maxHeartbeats 8000000 in
theorem cd_s217_0 {x1 : Int32} {L : Nat} {w : Bool} {I : Nat → Nat → Int32} {J : Nat → Nat → Int64} {r : cd_Ret} (h : (cd_go 217 6 [.ref 100, .int x1, .int ((80 : Int32) * x1), .int 0] [] (cd_mm L w I J)) = some r) : cd_go 217 0 [.ref 100, .int x1, .null, .null] [] (cd_mm L w I J) = some r := cd_q217_0 h
set_option maxRecDepth 1000000 in
set_option maxHeartbeats 8000000 in
theorem cd_s217_6 {x1 : Int32} {x2 : Int32} {x3 : Int32} {L : Nat} {w : Bool} {I : Nat → Nat → Int32} {J : Nat → Nat → Int64} {r : cd_Ret} (h : (if x3 < 8 then (if cd_in (x2 + x3) 240 = true then (if cd_in x3 8 = true then (if cd_in ((x2 + 8) + x3) 240 = true then (if ((cd_up I 101 x3.toNatClampNeg (I 125 (x2 + x3).toNatClampNeg)) 125 ((x2 + 8) + x3).toNatClampNeg) = 1 then (if cd_in x3 8 = true then (cd_go 217 6 [.ref 100, .int x1, .int x2, .int (x3 + 1)] [] (cd_mm L w (cd_up (cd_up I 101 x3.toNatClampNeg (I 125 (x2 + x3).toNatClampNeg)) 106 x3.toNatClampNeg 1) J)) else none) else if cd_in x3 8 = true then (cd_go 217 6 [.ref 100, .int x1, .int x2, .int (x3 + 1)] [] (cd_mm L w (cd_up (cd_up I 101 x3.toNatClampNeg (I 125 (x2 + x3).toNatClampNeg)) 106 x3.toNatClampNeg 0) J)) else none) else none) else none) else none) else cd_go 217 40 [.ref 100, .int x1, .int x2, .int 0] [] (cd_mm L w I J)) = some r) : cd_go 217 6 [.ref 100, .int x1, .int x2, .int x3] [] (cd_mm L w I J) = some r := by
  refine cd_q217_6 ?_
  simp only [cd_zwI, cd_zwL, cd_zI, cd_zJ, cd_zcp, true_and, if_true, cd_zk_100, cd_zR_100_1, cd_zR_100_46, cd_zk_125, cd_zn_125, cd_zk_101, cd_zn_101, cd_zR_100_6, cd_zk_106, cd_zn_106]
  exact h
set_option maxRecDepth 1000000 in
set_option maxHeartbeats 8000000 in
theorem cd_s217_40 {x1 : Int32} {x2 : Int32} {x3 : Int32} {L : Nat} {w : Bool} {I : Nat → Nat → Int32} {J : Nat → Nat → Int64} {r : cd_Ret} (h : (if x3 < 12 then (if cd_in ((x2 + 16) + x3) 240 = true then (if (I 125 ((x2 + 16) + x3).toNatClampNeg) = 1 then (if cd_in x3 12 = true then (if cd_in ((x2 + 28) + x3) 240 = true then (if cd_in x3 12 = true then (if cd_in ((x2 + 40) + x3) 240 = true then (if cd_in x3 12 = true then (cd_go 217 40 [.ref 100, .int x1, .int x2, .int (x3 + 1)] [] (cd_mm L w (cd_up (cd_up (cd_up I 112 x3.toNatClampNeg 1) 110 x3.toNatClampNeg ((cd_up I 112 x3.toNatClampNeg 1) 125 ((x2 + 28) + x3).toNatClampNeg)) 111 x3.toNatClampNeg ((cd_up (cd_up I 112 x3.toNatClampNeg 1) 110 x3.toNatClampNeg ((cd_up I 112 x3.toNatClampNeg 1) 125 ((x2 + 28) + x3).toNatClampNeg)) 125 ((x2 + 40) + x3).toNatClampNeg)) J)) else none) else none) else none) else none) else none) else if cd_in x3 12 = true then (if cd_in ((x2 + 28) + x3) 240 = true then (if cd_in x3 12 = true then (if cd_in ((x2 + 40) + x3) 240 = true then (if cd_in x3 12 = true then (cd_go 217 40 [.ref 100, .int x1, .int x2, .int (x3 + 1)] [] (cd_mm L w (cd_up (cd_up (cd_up I 112 x3.toNatClampNeg 0) 110 x3.toNatClampNeg ((cd_up I 112 x3.toNatClampNeg 0) 125 ((x2 + 28) + x3).toNatClampNeg)) 111 x3.toNatClampNeg ((cd_up (cd_up I 112 x3.toNatClampNeg 0) 110 x3.toNatClampNeg ((cd_up I 112 x3.toNatClampNeg 0) 125 ((x2 + 28) + x3).toNatClampNeg)) 125 ((x2 + 40) + x3).toNatClampNeg)) J)) else none) else none) else none) else none) else none) else none) else if cd_in (x2 + 52) 240 = true then (some (none, (cd_mm L w (cd_up I 100 56 (I 125 (x2 + 52).toNatClampNeg)) J))) else none) = some r) : cd_go 217 40 [.ref 100, .int x1, .int x2, .int x3] [] (cd_mm L w I J) = some r := by
  refine cd_q217_40 ?_
  simp only [cd_zwI, cd_zwL, cd_zI, cd_zJ, cd_zcp, true_and, if_true, cd_zk_100, cd_zR_100_14, cd_zR_100_46, cd_zk_125, cd_zn_125, cd_zk_112, cd_zn_112, cd_zR_100_12, cd_zk_110, cd_zn_110, cd_zR_100_13, cd_zk_111, cd_zn_111]
  exact h
set_option maxRecDepth 1000000 in
set_option maxHeartbeats 8000000 in
theorem cd_s218_0 {x1 : Int32} {x2 : Int32} {L : Nat} {w : Bool} {I : Nat → Nat → Int32} {J : Nat → Nat → Int64} {r : cd_Ret} (h : (cd_go 218 7 [.ref 100, .int x1, .int x2, .int x1, .int ((I 100 9) - 1)] [] (cd_mm L w I J)) = some r) : cd_go 218 0 [.ref 100, .int x1, .int x2, .null, .null] [] (cd_mm L w I J) = some r := by
  refine cd_q218_0 ?_
  simp only [cd_zwI, cd_zwL, cd_zI, cd_zJ, cd_zcp, true_and, if_true, cd_zk_100]
  exact h
set_option maxRecDepth 1000000 in
set_option maxHeartbeats 8000000 in
theorem cd_s218_7 {x1 : Int32} {x2 : Int32} {x3 : Int32} {x4 : Int32} {L : Nat} {w : Bool} {I : Nat → Nat → Int32} {J : Nat → Nat → Int64} {r : cd_Ret} (h : (if x4 < 0 then (some (none, (cd_mm L w I J))) else if x2 = 0 then none else if cd_in x4 12 = true then (if cd_in x4 12 = true then (if ((cd_up I 110 x4.toNatClampNeg (x3 - x3 / x2 * x2)) 110 x4.toNatClampNeg) = 2 then (if cd_in x4 12 = true then (if cd_in x4 12 = true then (if cd_in x4 12 = true then (if cd_in ((cd_up (cd_up I 110 x4.toNatClampNeg (x3 - x3 / x2 * x2)) 111 x4.toNatClampNeg 20) 109 x4.toNatClampNeg) 8 = true then ((cd_ci (cd_c 150 [.ref 100, .int ((cd_up (cd_up I 110 x4.toNatClampNeg (x3 - x3 / x2 * x2)) 111 x4.toNatClampNeg 20) 108 x4.toNatClampNeg), .int ((cd_up (cd_up I 110 x4.toNatClampNeg (x3 - x3 / x2 * x2)) 111 x4.toNatClampNeg 20) 101 ((cd_up (cd_up I 110 x4.toNatClampNeg (x3 - x3 / x2 * x2)) 111 x4.toNatClampNeg 20) 109 x4.toNatClampNeg).toNatClampNeg)] (cd_mm L w (cd_up (cd_up I 110 x4.toNatClampNeg (x3 - x3 / x2 * x2)) 111 x4.toNatClampNeg 20) J))).bind fun q => cd_go 218 45 [.ref 100, .int x1, .int x2, .int x3, .int x4] [.int q.1, .int x4, .ref 112] q.2) else none) else none) else none) else none) else if cd_in x4 12 = true then (if cd_in x4 12 = true then (if cd_in x4 12 = true then (if cd_in ((cd_up (cd_up I 110 x4.toNatClampNeg (x3 - x3 / x2 * x2)) 111 x4.toNatClampNeg 0) 109 x4.toNatClampNeg) 8 = true then ((cd_ci (cd_c 150 [.ref 100, .int ((cd_up (cd_up I 110 x4.toNatClampNeg (x3 - x3 / x2 * x2)) 111 x4.toNatClampNeg 0) 108 x4.toNatClampNeg), .int ((cd_up (cd_up I 110 x4.toNatClampNeg (x3 - x3 / x2 * x2)) 111 x4.toNatClampNeg 0) 101 ((cd_up (cd_up I 110 x4.toNatClampNeg (x3 - x3 / x2 * x2)) 111 x4.toNatClampNeg 0) 109 x4.toNatClampNeg).toNatClampNeg)] (cd_mm L w (cd_up (cd_up I 110 x4.toNatClampNeg (x3 - x3 / x2 * x2)) 111 x4.toNatClampNeg 0) J))).bind fun q => cd_go 218 45 [.ref 100, .int x1, .int x2, .int x3, .int x4] [.int q.1, .int x4, .ref 112] q.2) else none) else none) else none) else none) else none) else none) = some r) : cd_go 218 7 [.ref 100, .int x1, .int x2, .int x3, .int x4] [] (cd_mm L w I J) = some r := by
  refine cd_q218_7 ?_
  simp only [cd_zwI, cd_zwL, cd_zI, cd_zJ, cd_zcp, true_and, if_true, cd_zk_100, cd_zR_100_12, cd_zk_110, cd_zn_110, cd_zR_100_13, cd_zk_111, cd_zn_111, cd_zR_100_14, cd_zR_100_10, cd_zk_108, cd_zn_108, cd_zR_100_1, cd_zR_100_11, cd_zk_109, cd_zn_109, cd_zk_101, cd_zn_101]
  exact h
set_option maxRecDepth 1000000 in
set_option maxHeartbeats 8000000 in
theorem cd_s218_45 {x1 : Int32} {x2 : Int32} {x3 : Int32} {x4 : Int32} {s1 : Int32} {s2 : Int32} {L : Nat} {w : Bool} {I : Nat → Nat → Int32} {J : Nat → Nat → Int64} {r : cd_Ret} (h : (if cd_in s1 12 = true then (if s2 &&& 1 = s2 then (if x2 = 0 then none else cd_go 218 7 [.ref 100, .int x1, .int x2, .int (x3 / x2), .int (x4 + (-1))] [] (cd_mm L w (cd_up I 112 s1.toNatClampNeg s2) J)) else none) else none) = some r) : cd_go 218 45 [.ref 100, .int x1, .int x2, .int x3, .int x4] [.int s2, .int s1, .ref 112] (cd_mm L w I J) = some r := by
  refine cd_q218_45 ?_
  simp only [cd_zwI, cd_zwL, cd_zI, cd_zJ, cd_zcp, true_and, if_true, cd_zk_112, cd_zn_112]
  exact h
set_option maxRecDepth 1000000 in
set_option maxHeartbeats 8000000 in
theorem cd_s219_0 {x1 : Int32} {L : Nat} {w : Bool} {I : Nat → Nat → Int32} {J : Nat → Nat → Int64} {r : cd_Ret} (h : (cd_go 219 4 [.ref 100, .int x1, .int 0, .int 0] [] (cd_mm L w I J)) = some r) : cd_go 219 0 [.ref 100, .int x1, .null, .null] [] (cd_mm L w I J) = some r := cd_q219_0 h
set_option maxRecDepth 1000000 in
set_option maxHeartbeats 8000000 in
theorem cd_s219_4 {x1 : Int32} {x2 : Int32} {x3 : Int32} {L : Nat} {w : Bool} {I : Nat → Nat → Int32} {J : Nat → Nat → Int64} {r : cd_Ret} (h : (if x3 < (I 100 9) then (if cd_in x3 12 = true then (if (I 110 x3.toNatClampNeg) = x1 then (cd_go 219 4 [.ref 100, .int x1, .int (x2 + 1), .int (x3 + 1)] [] (cd_mm L w I J)) else cd_go 219 4 [.ref 100, .int x1, .int (x2 + 0), .int (x3 + 1)] [] (cd_mm L w I J)) else none) else some (some (.int x2), (cd_mm L w I J))) = some r) : cd_go 219 4 [.ref 100, .int x1, .int x2, .int x3] [] (cd_mm L w I J) = some r := by
  refine cd_q219_4 ?_
  simp only [cd_zwI, cd_zwL, cd_zI, cd_zJ, cd_zcp, true_and, if_true, cd_zk_100, cd_zR_100_12, cd_zk_110, cd_zn_110]
  exact h
set_option maxRecDepth 1000000 in
set_option maxHeartbeats 8000000 in
theorem cd_s220_0 {x0 : Int32} {x1 : Int32} {L : Nat} {w : Bool} {I : Nat → Nat → Int32} {J : Nat → Nat → Int64} {r : cd_Ret} (h : (cd_go 220 4 [.int x0, .int x1, .int 1, .int 0] [] (cd_mm L w I J)) = some r) : cd_go 220 0 [.int x0, .int x1, .null, .null] [] (cd_mm L w I J) = some r := cd_q220_0 h
set_option maxRecDepth 1000000 in
set_option maxHeartbeats 8000000 in
theorem cd_s220_4 {x0 : Int32} {x1 : Int32} {x2 : Int32} {x3 : Int32} {L : Nat} {w : Bool} {I : Nat → Nat → Int32} {J : Nat → Nat → Int64} {r : cd_Ret} (h : (if x3 < x1 then (cd_go 220 4 [.int x0, .int x1, .int (x2 * x0), .int (x3 + 1)] [] (cd_mm L w I J)) else some (some (.int x2), (cd_mm L w I J))) = some r) : cd_go 220 4 [.int x0, .int x1, .int x2, .int x3] [] (cd_mm L w I J) = some r := cd_q220_4 h
set_option maxRecDepth 1000000 in
set_option maxHeartbeats 8000000 in
theorem cd_s221_0 {x1 : Int32} {x2 : Int32} {x3 : Int32} {L : Nat} {w : Bool} {I : Nat → Nat → Int32} {J : Nat → Nat → Int64} {r : cd_Ret} (h : ((cd_cv (cd_c 216 [.ref 100, .int 2] (cd_mm L w I J))).bind fun m => cd_go 221 3 [.ref 100, .int x1, .int x2, .int x3, .null, .null, .null, .null, .null] [] m) = some r) : cd_go 221 0 [.ref 100, .int x1, .int x2, .int x3, .null, .null, .null, .null, .null] [] (cd_mm L w I J) = some r := by
  refine cd_q221_0 ?_
  simp only [cd_zwI, cd_zwL, cd_zI, cd_zJ, cd_zcp, true_and, if_true, cd_zk_100]
  exact h
set_option maxRecDepth 1000000 in
set_option maxHeartbeats 8000000 in
theorem cd_s221_3 {x1 : Int32} {x2 : Int32} {x3 : Int32} {L : Nat} {w : Bool} {I : Nat → Nat → Int32} {J : Nat → Nat → Int64} {r : cd_Ret} (h : ((cd_ci (cd_c 220 [.int 3, .int ((cd_up I 100 48 0) 100 9)] (cd_mm L w (cd_up I 100 48 0) J))).bind fun q => cd_go 221 12 [.ref 100, .int x1, .int x2, .int x3, .int (-1), .null, .null, .null, .null] [.int q.1] q.2) = some r) : cd_go 221 3 [.ref 100, .int x1, .int x2, .int x3, .null, .null, .null, .null, .null] [] (cd_mm L w I J) = some r := by
  refine cd_q221_3 ?_
  simp only [cd_zwI, cd_zwL, cd_zI, cd_zJ, cd_zcp, true_and, if_true, cd_zk_100]
  exact h
set_option maxRecDepth 1000000 in
set_option maxHeartbeats 8000000 in
theorem cd_s221_12 {x1 : Int32} {x2 : Int32} {x3 : Int32} {x4 : Int32} {s0 : Int32} {L : Nat} {w : Bool} {I : Nat → Nat → Int32} {J : Nat → Nat → Int64} {r : cd_Ret} (h : (cd_go 221 15 [.ref 100, .int x1, .int x2, .int x3, .int x4, .int s0, .int 0, .null, .null] [] (cd_mm L w I J)) = some r) : cd_go 221 12 [.ref 100, .int x1, .int x2, .int x3, .int x4, .null, .null, .null, .null] [.int s0] (cd_mm L w I J) = some r := cd_q221_12 h
set_option maxRecDepth 1000000 in
set_option maxHeartbeats 8000000 in
theorem cd_s221_15 {x1 : Int32} {x2 : Int32} {x3 : Int32} {x4 : Int32} {x5 : Int32} {x6 : Int32} {w7 : Value} {w8 : Value} {L : Nat} {w : Bool} {I : Nat → Nat → Int32} {J : Nat → Nat → Int64} {r : cd_Ret} (h : (if x6 < x5 then ((cd_cv (cd_c 218 [.ref 100, .int x6, .int 3] (cd_mm L w I J))).bind fun m => cd_go 221 22 [.ref 100, .int x1, .int x2, .int x3, .int x4, .int x5, .int x6, w7, w8] [] m) else some (some (.int x4), (cd_mm L w I J))) = some r) : cd_go 221 15 [.ref 100, .int x1, .int x2, .int x3, .int x4, .int x5, .int x6, w7, w8] [] (cd_mm L w I J) = some r := by
  refine cd_q221_15 ?_
  simp only [cd_zwI, cd_zwL, cd_zI, cd_zJ, cd_zcp, true_and, if_true, cd_zk_100]
  exact h
set_option maxRecDepth 1000000 in
set_option maxHeartbeats 8000000 in
theorem cd_s221_22 {x1 : Int32} {x2 : Int32} {x3 : Int32} {x4 : Int32} {x5 : Int32} {x6 : Int32} {w7 : Value} {w8 : Value} {L : Nat} {w : Bool} {I : Nat → Nat → Int32} {J : Nat → Nat → Int64} {r : cd_Ret} (h : ((cd_ci (cd_c 219 [.ref 100, .int 1] (cd_mm L w I J))).bind fun q => cd_go 221 25 [.ref 100, .int x1, .int x2, .int x3, .int x4, .int x5, .int x6, w7, w8] [.int q.1] q.2) = some r) : cd_go 221 22 [.ref 100, .int x1, .int x2, .int x3, .int x4, .int x5, .int x6, w7, w8] [] (cd_mm L w I J) = some r := by
  refine cd_q221_22 ?_
  simp only [cd_zwI, cd_zwL, cd_zI, cd_zJ, cd_zcp, true_and, if_true, cd_zk_100]
  exact h
set_option maxRecDepth 1000000 in
set_option maxHeartbeats 8000000 in
theorem cd_s221_25 {x1 : Int32} {x2 : Int32} {x3 : Int32} {x4 : Int32} {x5 : Int32} {x6 : Int32} {w7 : Value} {w8 : Value} {s0 : Int32} {L : Nat} {w : Bool} {I : Nat → Nat → Int32} {J : Nat → Nat → Int64} {r : cd_Ret} (h : (if x2 < s0 then ((cd_cv (cd_c 217 [.ref 100, .int 2] (cd_mm L w I J))).bind fun m => cd_go 221 64 [.ref 100, .int x1, .int x2, .int x3, .int x4, .int x5, .int x6, w7, w8] [] m) else (cd_ci (cd_c 219 [.ref 100, .int 2] (cd_mm L w I J))).bind fun q => cd_go 221 30 [.ref 100, .int x1, .int x2, .int x3, .int x4, .int x5, .int x6, w7, w8] [.int q.1] q.2) = some r) : cd_go 221 25 [.ref 100, .int x1, .int x2, .int x3, .int x4, .int x5, .int x6, w7, w8] [.int s0] (cd_mm L w I J) = some r := by
  refine cd_q221_25 ?_
  simp only [cd_zwI, cd_zwL, cd_zI, cd_zJ, cd_zcp, true_and, if_true, cd_zk_100]
  exact h
set_option maxRecDepth 1000000 in
set_option maxHeartbeats 8000000 in
theorem cd_s221_30 {x1 : Int32} {x2 : Int32} {x3 : Int32} {x4 : Int32} {x5 : Int32} {x6 : Int32} {w7 : Value} {w8 : Value} {s0 : Int32} {L : Nat} {w : Bool} {I : Nat → Nat → Int32} {J : Nat → Nat → Int64} {r : cd_Ret} (h : (if x3 < s0 then ((cd_cv (cd_c 217 [.ref 100, .int 2] (cd_mm L w I J))).bind fun m => cd_go 221 64 [.ref 100, .int x1, .int x2, .int x3, .int x4, .int x5, .int x6, w7, w8] [] m) else (cd_ci (cd_c 195 [.ref 100, .int (-1), .int 0] (cd_mm L w I J))).bind fun q => cd_go 221 36 [.ref 100, .int x1, .int x2, .int x3, .int x4, .int x5, .int x6, w7, w8] [.int q.1] q.2) = some r) : cd_go 221 30 [.ref 100, .int x1, .int x2, .int x3, .int x4, .int x5, .int x6, w7, w8] [.int s0] (cd_mm L w I J) = some r := by
  refine cd_q221_30 ?_
  simp only [cd_zwI, cd_zwL, cd_zI, cd_zJ, cd_zcp, true_and, if_true, cd_zk_100]
  exact h
set_option maxRecDepth 1000000 in
set_option maxHeartbeats 8000000 in
theorem cd_s221_36 {x1 : Int32} {x2 : Int32} {x3 : Int32} {x4 : Int32} {x5 : Int32} {x6 : Int32} {w7 : Value} {w8 : Value} {s0 : Int32} {L : Nat} {w : Bool} {I : Nat → Nat → Int32} {J : Nat → Nat → Int64} {r : cd_Ret} (h : ((cd_ci (cd_c 205 [.ref 100, .int x1] (cd_mm L w I J))).bind fun q => cd_go 221 41 [.ref 100, .int x1, .int x2, .int x3, .int x4, .int x5, .int x6, .int s0, w8] [.int q.1, .ref 100] q.2) = some r) : cd_go 221 36 [.ref 100, .int x1, .int x2, .int x3, .int x4, .int x5, .int x6, w7, w8] [.int s0] (cd_mm L w I J) = some r := by
  refine cd_q221_36 ?_
  simp only [cd_zwI, cd_zwL, cd_zI, cd_zJ, cd_zcp, true_and, if_true, cd_zk_100]
  exact h
set_option maxRecDepth 1000000 in
set_option maxHeartbeats 8000000 in
theorem cd_s221_41 {x1 : Int32} {x2 : Int32} {x3 : Int32} {x4 : Int32} {x5 : Int32} {x6 : Int32} {x7 : Int32} {w8 : Value} {s1 : Int32} {L : Nat} {w : Bool} {I : Nat → Nat → Int32} {J : Nat → Nat → Int64} {r : cd_Ret} (h : ((cd_ci (cd_c 211 [.ref 100, .int s1] (cd_mm L w I J))).bind fun q => cd_go 221 42 [.ref 100, .int x1, .int x2, .int x3, .int x4, .int x5, .int x6, .int x7, w8] [.int q.1] q.2) = some r) : cd_go 221 41 [.ref 100, .int x1, .int x2, .int x3, .int x4, .int x5, .int x6, .int x7, w8] [.int s1, .ref 100] (cd_mm L w I J) = some r := by
  refine cd_q221_41 ?_
  simp only [cd_zwI, cd_zwL, cd_zI, cd_zJ, cd_zcp, true_and, if_true, cd_zk_100]
  exact h
set_option maxRecDepth 1000000 in
set_option maxHeartbeats 8000000 in
theorem cd_s221_42 {x1 : Int32} {x2 : Int32} {x3 : Int32} {x4 : Int32} {x5 : Int32} {x6 : Int32} {x7 : Int32} {w8 : Value} {s0 : Int32} {L : Nat} {w : Bool} {I : Nat → Nat → Int32} {J : Nat → Nat → Int64} {r : cd_Ret} (h : (if x7 < 0 then (if x4 < s0 then ((cd_cv (cd_c 217 [.ref 100, .int 2] (cd_mm L w (cd_up I 100 48 (I 100 48)) J))).bind fun m => cd_go 221 64 [.ref 100, .int x1, .int x2, .int x3, .int s0, .int x5, .int x6, .int x7, .int s0] [] m) else (cd_cv (cd_c 217 [.ref 100, .int 2] (cd_mm L w (cd_up I 100 48 (I 100 48)) J))).bind fun m => cd_go 221 64 [.ref 100, .int x1, .int x2, .int x3, .int x4, .int x5, .int x6, .int x7, .int s0] [] m) else if x4 < s0 then (if x4 < s0 then ((cd_cv (cd_c 217 [.ref 100, .int 2] (cd_mm L w (cd_up I 100 48 x6) J))).bind fun m => cd_go 221 64 [.ref 100, .int x1, .int x2, .int x3, .int s0, .int x5, .int x6, .int x7, .int s0] [] m) else (cd_cv (cd_c 217 [.ref 100, .int 2] (cd_mm L w (cd_up I 100 48 x6) J))).bind fun m => cd_go 221 64 [.ref 100, .int x1, .int x2, .int x3, .int x4, .int x5, .int x6, .int x7, .int s0] [] m) else if x4 < s0 then ((cd_cv (cd_c 217 [.ref 100, .int 2] (cd_mm L w (cd_up I 100 48 (I 100 48)) J))).bind fun m => cd_go 221 64 [.ref 100, .int x1, .int x2, .int x3, .int s0, .int x5, .int x6, .int x7, .int s0] [] m) else (cd_cv (cd_c 217 [.ref 100, .int 2] (cd_mm L w (cd_up I 100 48 (I 100 48)) J))).bind fun m => cd_go 221 64 [.ref 100, .int x1, .int x2, .int x3, .int x4, .int x5, .int x6, .int x7, .int s0] [] m) = some r) : cd_go 221 42 [.ref 100, .int x1, .int x2, .int x3, .int x4, .int x5, .int x6, .int x7, w8] [.int s0] (cd_mm L w I J) = some r := by
  refine cd_q221_42 ?_
  simp only [cd_zwI, cd_zwL, cd_zI, cd_zJ, cd_zcp, true_and, if_true, cd_zk_100]
  exact h
set_option maxRecDepth 1000000 in
set_option maxHeartbeats 8000000 in
theorem cd_s221_64 {x1 : Int32} {x2 : Int32} {x3 : Int32} {x4 : Int32} {x5 : Int32} {x6 : Int32} {w7 : Value} {w8 : Value} {L : Nat} {w : Bool} {I : Nat → Nat → Int32} {J : Nat → Nat → Int64} {r : cd_Ret} (h : (cd_go 221 15 [.ref 100, .int x1, .int x2, .int x3, .int x4, .int x5, .int (x6 + 1), w7, w8] [] (cd_mm L w I J)) = some r) : cd_go 221 64 [.ref 100, .int x1, .int x2, .int x3, .int x4, .int x5, .int x6, w7, w8] [] (cd_mm L w I J) = some r := cd_q221_64 h
set_option maxRecDepth 1000000 in
set_option maxHeartbeats 8000000 in
theorem cd_s222_0 {x1 : Int32} {x2 : Int32} {x3 : Int32} {x4 : Int32} {L : Nat} {w : Bool} {I : Nat → Nat → Int32} {J : Nat → Nat → Int64} {r : cd_Ret} (h : (if x4 = (-1) then (cd_go 222 9 [.ref 100, .int x1, .int x2, .int x3, .int x4, .null] [] (cd_mm L w I J)) else (cd_ci (cd_c 142 [.ref 100, .int x4] (cd_mm L w I J))).bind fun q => cd_go 222 6 [.ref 100, .int x1, .int x2, .int x3, .int x4, .null] [.int q.1] q.2) = some r) : cd_go 222 0 [.ref 100, .int x1, .int x2, .int x3, .int x4, .null] [] (cd_mm L w I J) = some r := by
  refine cd_q222_0 ?_
  simp only [cd_zwI, cd_zwL, cd_zI, cd_zJ, cd_zcp, true_and, if_true, cd_zk_100]
  exact h
set_option maxRecDepth 1000000 in
set_option maxHeartbeats 8000000 in
theorem cd_s222_6 {x1 : Int32} {x2 : Int32} {x3 : Int32} {x4 : Int32} {s0 : Int32} {L : Nat} {w : Bool} {I : Nat → Nat → Int32} {J : Nat → Nat → Int64} {r : cd_Ret} (h : (if s0 = 0 then (some (some (.int (-1001)), (cd_mm L w I J))) else cd_go 222 9 [.ref 100, .int x1, .int x2, .int x3, .int x4, .null] [] (cd_mm L w I J)) = some r) : cd_go 222 6 [.ref 100, .int x1, .int x2, .int x3, .int x4, .null] [.int s0] (cd_mm L w I J) = some r := cd_q222_6 h
set_option maxRecDepth 1000000 in
set_option maxHeartbeats 8000000 in
theorem cd_s222_9 {x1 : Int32} {x2 : Int32} {x3 : Int32} {x4 : Int32} {L : Nat} {w : Bool} {I : Nat → Nat → Int32} {J : Nat → Nat → Int64} {r : cd_Ret} (h : ((cd_ci (cd_c 210 [.int x1] (cd_mm L w I J))).bind fun q => cd_go 222 11 [.ref 100, .int x1, .int x2, .int x3, .int x4, .null] [.int q.1] q.2) = some r) : cd_go 222 9 [.ref 100, .int x1, .int x2, .int x3, .int x4, .null] [] (cd_mm L w I J) = some r := cd_q222_9 h
set_option maxRecDepth 1000000 in
set_option maxHeartbeats 8000000 in
theorem cd_s222_11 {x1 : Int32} {x2 : Int32} {x3 : Int32} {x4 : Int32} {s0 : Int32} {L : Nat} {w : Bool} {I : Nat → Nat → Int32} {J : Nat → Nat → Int64} {r : cd_Ret} (h : (if s0 = 0 then (some (some (.int (-1002)), (cd_mm L w I J))) else (cd_ci (cd_c 138 [.long x2.toInt64, .long 0, .long 12] (cd_mm L w I J))).bind fun q => cd_go 222 17 [.ref 100, .int x1, .int x2, .int x3, .int x4, .null] [.int q.1] q.2) = some r) : cd_go 222 11 [.ref 100, .int x1, .int x2, .int x3, .int x4, .null] [.int s0] (cd_mm L w I J) = some r := cd_q222_11 h
set_option maxRecDepth 1000000 in
set_option maxHeartbeats 8000000 in
theorem cd_s222_17 {x1 : Int32} {x2 : Int32} {x3 : Int32} {x4 : Int32} {s0 : Int32} {L : Nat} {w : Bool} {I : Nat → Nat → Int32} {J : Nat → Nat → Int64} {r : cd_Ret} (h : (if s0 = 0 then (some (some (.int (-1002)), (cd_mm L w I J))) else (cd_ci (cd_c 138 [.long x3.toInt64, .long 0, .long 12] (cd_mm L w I J))).bind fun q => cd_go 222 23 [.ref 100, .int x1, .int x2, .int x3, .int x4, .null] [.int q.1] q.2) = some r) : cd_go 222 17 [.ref 100, .int x1, .int x2, .int x3, .int x4, .null] [.int s0] (cd_mm L w I J) = some r := cd_q222_17 h
set_option maxRecDepth 1000000 in
set_option maxHeartbeats 8000000 in
theorem cd_s222_23 {x1 : Int32} {x2 : Int32} {x3 : Int32} {x4 : Int32} {s0 : Int32} {L : Nat} {w : Bool} {I : Nat → Nat → Int32} {J : Nat → Nat → Int64} {r : cd_Ret} (h : (if s0 = 0 then (some (some (.int (-1002)), (cd_mm L w I J))) else if 7 < (I 100 9) then (some (some (.int (-1003)), (cd_mm L w I J))) else (cd_ci (cd_c 221 [.ref 100, .int x1, .int x2, .int x3] (cd_mm L w I J))).bind fun q => cd_go 222 37 [.ref 100, .int x1, .int x2, .int x3, .int x4, .null] [.int q.1] q.2) = some r) : cd_go 222 23 [.ref 100, .int x1, .int x2, .int x3, .int x4, .null] [.int s0] (cd_mm L w I J) = some r := by
  refine cd_q222_23 ?_
  simp only [cd_zwI, cd_zwL, cd_zI, cd_zJ, cd_zcp, true_and, if_true, cd_zk_100]
  exact h
set_option maxRecDepth 1000000 in
set_option maxHeartbeats 8000000 in
theorem cd_s222_37 {x1 : Int32} {x2 : Int32} {x3 : Int32} {x4 : Int32} {s0 : Int32} {L : Nat} {w : Bool} {I : Nat → Nat → Int32} {J : Nat → Nat → Int64} {r : cd_Ret} (h : (if x4 = (-1) then (some (some (.int s0), (cd_mm L w I J))) else (cd_ci (cd_c 220 [.int 3, .int (((I 100 9) - 1) - x4)] (cd_mm L w I J))).bind fun q => cd_go 222 53 [.ref 100, .int x1, .int x2, .int x3, .int x4, .int s0] [.int q.1, .int (I 100 48)] q.2) = some r) : cd_go 222 37 [.ref 100, .int x1, .int x2, .int x3, .int x4, .null] [.int s0] (cd_mm L w I J) = some r := by
  refine cd_q222_37 ?_
  simp only [cd_zwI, cd_zwL, cd_zI, cd_zJ, cd_zcp, true_and, if_true, cd_zk_100]
  exact h
set_option maxRecDepth 1000000 in
set_option maxHeartbeats 8000000 in
theorem cd_s222_53 {x1 : Int32} {x2 : Int32} {x3 : Int32} {x4 : Int32} {x5 : Int32} {s0 : Int32} {s1 : Int32} {L : Nat} {w : Bool} {I : Nat → Nat → Int32} {J : Nat → Nat → Int64} {r : cd_Ret} (h : (if s1 = 0 then none else some (some (.int ((s0 / s1) - (s0 / s1) / 3 * 3)), (cd_mm L w I J))) = some r) : cd_go 222 53 [.ref 100, .int x1, .int x2, .int x3, .int x4, .int x5] [.int s1, .int s0] (cd_mm L w I J) = some r := cd_q222_53 h
set_option maxRecDepth 1000000 in
set_option maxHeartbeats 8000000 in
theorem cd_s223_0 {L : Nat} {w : Bool} {I : Nat → Nat → Int32} {J : Nat → Nat → Int64} {r : cd_Ret} (h : (if 7 < (I 100 9) then (some (some (.int (-1003)), (cd_mm L w I J))) else (cd_cv (cd_c 216 [.ref 100, .int 2] (cd_mm L w I J))).bind fun m => cd_go 223 9 [.ref 100, .null, .null, .null, .null] [] m) = some r) : cd_go 223 0 [.ref 100, .null, .null, .null, .null] [] (cd_mm L w I J) = some r := by
  refine cd_q223_0 ?_
  simp only [cd_zwI, cd_zwL, cd_zI, cd_zJ, cd_zcp, true_and, if_true, cd_zk_100]
  exact h
set_option maxRecDepth 1000000 in
set_option maxHeartbeats 8000000 in
theorem cd_s223_9 {L : Nat} {w : Bool} {I : Nat → Nat → Int32} {J : Nat → Nat → Int64} {r : cd_Ret} (h : (cd_go 223 13 [.ref 100, .int (-1), .int 0, .null, .null] [] (cd_mm L w I J)) = some r) : cd_go 223 9 [.ref 100, .null, .null, .null, .null] [] (cd_mm L w I J) = some r := cd_q223_9 h
set_option maxRecDepth 1000000 in
set_option maxHeartbeats 8000000 in
theorem cd_s223_13 {x1 : Int32} {x2 : Int32} {w3 : Value} {w4 : Value} {L : Nat} {w : Bool} {I : Nat → Nat → Int32} {J : Nat → Nat → Int64} {r : cd_Ret} (h : (if x2 < ((1 : Int32) <<< ((I 100 9) &&& 31)) then ((cd_cv (cd_c 218 [.ref 100, .int x2, .int 2] (cd_mm L w I J))).bind fun m => cd_go 223 23 [.ref 100, .int x1, .int x2, w3, w4] [] m) else some (some (.int x1), (cd_mm L w I J))) = some r) : cd_go 223 13 [.ref 100, .int x1, .int x2, w3, w4] [] (cd_mm L w I J) = some r := by
  refine cd_q223_13 ?_
  simp only [cd_zwI, cd_zwL, cd_zI, cd_zJ, cd_zcp, true_and, if_true, cd_zk_100]
  exact h
set_option maxRecDepth 1000000 in
set_option maxHeartbeats 8000000 in
theorem cd_s223_23 {x1 : Int32} {x2 : Int32} {w3 : Value} {w4 : Value} {L : Nat} {w : Bool} {I : Nat → Nat → Int32} {J : Nat → Nat → Int64} {r : cd_Ret} (h : ((cd_ci (cd_c 219 [.ref 100, .int 1] (cd_mm L w I J))).bind fun q => cd_go 223 26 [.ref 100, .int x1, .int x2, w3, w4] [.int q.1] q.2) = some r) : cd_go 223 23 [.ref 100, .int x1, .int x2, w3, w4] [] (cd_mm L w I J) = some r := by
  refine cd_q223_23 ?_
  simp only [cd_zwI, cd_zwL, cd_zI, cd_zJ, cd_zcp, true_and, if_true, cd_zk_100]
  exact h
set_option maxRecDepth 1000000 in
set_option maxHeartbeats 8000000 in
theorem cd_s223_26 {x1 : Int32} {x2 : Int32} {w3 : Value} {w4 : Value} {s0 : Int32} {L : Nat} {w : Bool} {I : Nat → Nat → Int32} {J : Nat → Nat → Int64} {r : cd_Ret} (h : (if x1 < 0 then (cd_go 223 32 [.ref 100, .int x1, .int x2, .int s0, w4] [] (cd_mm L w I J)) else if s0 < x1 then (cd_go 223 32 [.ref 100, .int x1, .int x2, .int s0, w4] [] (cd_mm L w I J)) else (cd_cv (cd_c 217 [.ref 100, .int 2] (cd_mm L w I J))).bind fun m => cd_go 223 50 [.ref 100, .int x1, .int x2, .int s0, .int 0] [] m) = some r) : cd_go 223 26 [.ref 100, .int x1, .int x2, w3, w4] [.int s0] (cd_mm L w I J) = some r := by
  refine cd_q223_26 ?_
  simp only [cd_zwI, cd_zwL, cd_zI, cd_zJ, cd_zcp, true_and, if_true, cd_zk_100]
  exact h
set_option maxRecDepth 1000000 in
set_option maxHeartbeats 8000000 in
theorem cd_s223_32 {x1 : Int32} {x2 : Int32} {x3 : Int32} {w4 : Value} {L : Nat} {w : Bool} {I : Nat → Nat → Int32} {J : Nat → Nat → Int64} {r : cd_Ret} (h : ((cd_ci (cd_c 193 [.ref 100, .int (-1), .int 0] (cd_mm L w I J))).bind fun q => cd_go 223 36 [.ref 100, .int x1, .int x2, .int x3, w4] [.int q.1] q.2) = some r) : cd_go 223 32 [.ref 100, .int x1, .int x2, .int x3, w4] [] (cd_mm L w I J) = some r := by
  refine cd_q223_32 ?_
  simp only [cd_zwI, cd_zwL, cd_zI, cd_zJ, cd_zcp, true_and, if_true, cd_zk_100]
  exact h
set_option maxRecDepth 1000000 in
set_option maxHeartbeats 8000000 in
theorem cd_s223_36 {x1 : Int32} {x2 : Int32} {x3 : Int32} {w4 : Value} {s0 : Int32} {L : Nat} {w : Bool} {I : Nat → Nat → Int32} {J : Nat → Nat → Int64} {r : cd_Ret} (h : (if s0 < 0 then ((cd_cv (cd_c 217 [.ref 100, .int 2] (cd_mm L w I J))).bind fun m => cd_go 223 50 [.ref 100, .int x3, .int x2, .int x3, .int 1] [] m) else (cd_cv (cd_c 217 [.ref 100, .int 2] (cd_mm L w I J))).bind fun m => cd_go 223 50 [.ref 100, .int x1, .int x2, .int x3, .int 0] [] m) = some r) : cd_go 223 36 [.ref 100, .int x1, .int x2, .int x3, w4] [.int s0] (cd_mm L w I J) = some r := by
  refine cd_q223_36 ?_
  simp only [cd_zwI, cd_zwL, cd_zI, cd_zJ, cd_zcp, true_and, if_true, cd_zk_100]
  exact h
set_option maxRecDepth 1000000 in
set_option maxHeartbeats 8000000 in
theorem cd_s223_50 {x1 : Int32} {x2 : Int32} {x3 : Int32} {x4 : Int32} {L : Nat} {w : Bool} {I : Nat → Nat → Int32} {J : Nat → Nat → Int64} {r : cd_Ret} (h : (cd_go 223 13 [.ref 100, .int x1, .int (x2 + 1), .int x3, .int x4] [] (cd_mm L w I J)) = some r) : cd_go 223 50 [.ref 100, .int x1, .int x2, .int x3, .int x4] [] (cd_mm L w I J) = some r := cd_q223_50 h
set_option maxRecDepth 1000000 in
set_option maxHeartbeats 8000000 in
theorem cd_s224_0 {L : Nat} {w : Bool} {I : Nat → Nat → Int32} {J : Nat → Nat → Int64} {r : cd_Ret} (h : (cd_go 224 4 [.ref 100, .int 0, .int 0] [] (cd_mm L w I J)) = some r) : cd_go 224 0 [.ref 100, .null, .null] [] (cd_mm L w I J) = some r := cd_q224_0 h
set_option maxRecDepth 1000000 in
set_option maxHeartbeats 8000000 in
theorem cd_s224_4 {x1 : Int32} {x2 : Int32} {L : Nat} {w : Bool} {I : Nat → Nat → Int32} {J : Nat → Nat → Int64} {r : cd_Ret} (h : (if x2 < (I 100 9) then (if cd_in x2 12 = true then (if (I 112 x2.toNatClampNeg) = 0 then (cd_go 224 4 [.ref 100, .int (x1 ||| 0), .int (x2 + 1)] [] (cd_mm L w I J)) else cd_go 224 4 [.ref 100, .int (x1 ||| ((1 : Int32) <<< (x2 &&& 31))), .int (x2 + 1)] [] (cd_mm L w I J)) else none) else some (some (.int x1), (cd_mm L w I J))) = some r) : cd_go 224 4 [.ref 100, .int x1, .int x2] [] (cd_mm L w I J) = some r := by
  refine cd_q224_4 ?_
  simp only [cd_zwI, cd_zwL, cd_zI, cd_zJ, cd_zcp, true_and, if_true, cd_zk_100, cd_zR_100_14, cd_zk_112, cd_zn_112]
  exact h
set_option maxRecDepth 1000000 in
set_option maxHeartbeats 8000000 in
theorem cd_s225_0 {x1 : Int32} {x2 : Int32} {x3 : Int32} {L : Nat} {w : Bool} {I : Nat → Nat → Int32} {J : Nat → Nat → Int64} {r : cd_Ret} (h : (cd_go 225 7 [.ref 100, .int x1, .int x2, .int x3, .int x3, .int 0, .null] [] (cd_mm L w (cd_up I 100 38 0) J)) = some r) : cd_go 225 0 [.ref 100, .int x1, .int x2, .int x3, .null, .null, .null] [] (cd_mm L w I J) = some r := by
  refine cd_q225_0 ?_
  simp only [cd_zwI, cd_zwL, cd_zI, cd_zJ, cd_zcp, true_and, if_true, cd_zk_100]
  exact h
set_option maxRecDepth 1000000 in
set_option maxHeartbeats 8000000 in
theorem cd_s225_7 {x1 : Int32} {x2 : Int32} {x3 : Int32} {x4 : Int32} {x5 : Int32} {w6 : Value} {L : Nat} {w : Bool} {I : Nat → Nat → Int32} {J : Nat → Nat → Int64} {r : cd_Ret} (h : (if x5 < (I 100 9) then ((cd_ci (cd_c 139 [.int (x2 &&& (x1 ^^^ (-1))), .int x5] (cd_mm L w I J))).bind fun q => cd_go 225 18 [.ref 100, .int x1, .int x2, .int x3, .int x4, .int x5, w6] [.int q.1] q.2) else cd_go 225 49 [.ref 100, .int x1, .int x2, .int x3, .int x4, .int 0, w6] [] (cd_mm L w I J)) = some r) : cd_go 225 7 [.ref 100, .int x1, .int x2, .int x3, .int x4, .int x5, w6] [] (cd_mm L w I J) = some r := by
  refine cd_q225_7 ?_
  simp only [cd_zwI, cd_zwL, cd_zI, cd_zJ, cd_zcp, true_and, if_true, cd_zk_100]
  exact h
set_option maxRecDepth 1000000 in
set_option maxHeartbeats 8000000 in
theorem cd_s225_18 {x1 : Int32} {x2 : Int32} {x3 : Int32} {x4 : Int32} {x5 : Int32} {w6 : Value} {s0 : Int32} {L : Nat} {w : Bool} {I : Nat → Nat → Int32} {J : Nat → Nat → Int64} {r : cd_Ret} (h : (if s0 = 0 then (cd_go 225 23 [.ref 100, .int x1, .int x2, .int x3, .int x4, .int x5, w6] [] (cd_mm L w I J)) else if 0 < x4 then (cd_go 225 7 [.ref 100, .int x1, .int x2, .int x3, .int (x4 - 1), .int (x5 + 1), .int 1] [] (cd_mm L w (cd_up I 100 38 ((I 100 38) ||| ((1 : Int32) <<< (x5 &&& 31)))) J)) else cd_go 225 23 [.ref 100, .int x1, .int x2, .int x3, .int x4, .int x5, w6] [] (cd_mm L w I J)) = some r) : cd_go 225 18 [.ref 100, .int x1, .int x2, .int x3, .int x4, .int x5, w6] [.int s0] (cd_mm L w I J) = some r := by
  refine cd_q225_18 ?_
  simp only [cd_zwI, cd_zwL, cd_zI, cd_zJ, cd_zcp, true_and, if_true, cd_zk_100]
  exact h
set_option maxRecDepth 1000000 in
set_option maxHeartbeats 8000000 in
theorem cd_s225_23 {x1 : Int32} {x2 : Int32} {x3 : Int32} {x4 : Int32} {x5 : Int32} {w6 : Value} {L : Nat} {w : Bool} {I : Nat → Nat → Int32} {J : Nat → Nat → Int64} {r : cd_Ret} (h : (cd_go 225 7 [.ref 100, .int x1, .int x2, .int x3, .int (x4 - 0), .int (x5 + 1), .int 0] [] (cd_mm L w (cd_up I 100 38 ((I 100 38) ||| 0)) J)) = some r) : cd_go 225 23 [.ref 100, .int x1, .int x2, .int x3, .int x4, .int x5, w6] [] (cd_mm L w I J) = some r := by
  refine cd_q225_23 ?_
  simp only [cd_zwI, cd_zwL, cd_zI, cd_zJ, cd_zcp, true_and, if_true, cd_zk_100]
  exact h
set_option maxRecDepth 1000000 in
set_option maxHeartbeats 8000000 in
theorem cd_s225_49 {x1 : Int32} {x2 : Int32} {x3 : Int32} {x4 : Int32} {x5 : Int32} {w6 : Value} {L : Nat} {w : Bool} {I : Nat → Nat → Int32} {J : Nat → Nat → Int64} {r : cd_Ret} (h : (if x5 < (I 100 9) then ((cd_ci (cd_c 139 [.int (x1 ||| (I 100 38)), .int x5] (cd_mm L w I J))).bind fun q => cd_go 225 62 [.ref 100, .int x1, .int x2, .int x3, .int x4, .int x5, w6] [.int q.1, .int x5, .ref 112] q.2) else (cd_ci (cd_c 193 [.ref 100, .int (-1), .int 0] (cd_mm L w I J))).bind fun q => cd_go 225 69 [.ref 100, .int x1, .int x2, .int x3, .int x4, .int x5, w6] [.int q.1] q.2) = some r) : cd_go 225 49 [.ref 100, .int x1, .int x2, .int x3, .int x4, .int x5, w6] [] (cd_mm L w I J) = some r := by
  refine cd_q225_49 ?_
  simp only [cd_zwI, cd_zwL, cd_zI, cd_zJ, cd_zcp, true_and, if_true, cd_zk_100, cd_zR_100_14]
  exact h
set_option maxRecDepth 1000000 in
set_option maxHeartbeats 8000000 in
theorem cd_s225_62 {x1 : Int32} {x2 : Int32} {x3 : Int32} {x4 : Int32} {x5 : Int32} {w6 : Value} {s1 : Int32} {s2 : Int32} {L : Nat} {w : Bool} {I : Nat → Nat → Int32} {J : Nat → Nat → Int64} {r : cd_Ret} (h : (if cd_in s1 12 = true then (if s2 &&& 1 = s2 then (cd_go 225 49 [.ref 100, .int x1, .int x2, .int x3, .int x4, .int (x5 + 1), w6] [] (cd_mm L w (cd_up I 112 s1.toNatClampNeg s2) J)) else none) else none) = some r) : cd_go 225 62 [.ref 100, .int x1, .int x2, .int x3, .int x4, .int x5, w6] [.int s2, .int s1, .ref 112] (cd_mm L w I J) = some r := by
  refine cd_q225_62 ?_
  simp only [cd_zwI, cd_zwL, cd_zI, cd_zJ, cd_zcp, true_and, if_true, cd_zk_112, cd_zn_112]
  exact h
set_option maxRecDepth 1000000 in
set_option maxHeartbeats 8000000 in
theorem cd_s225_69 {x1 : Int32} {x2 : Int32} {x3 : Int32} {x4 : Int32} {x5 : Int32} {w6 : Value} {s0 : Int32} {L : Nat} {w : Bool} {I : Nat → Nat → Int32} {J : Nat → Nat → Int64} {r : cd_Ret} (h : (if s0 < 0 then (some (some (.int 1), (cd_mm L w (cd_up I 100 38 0) J))) else some (some (.int 0), (cd_mm L w (cd_up I 100 38 0) J))) = some r) : cd_go 225 69 [.ref 100, .int x1, .int x2, .int x3, .int x4, .int x5, w6] [.int s0] (cd_mm L w I J) = some r := by
  refine cd_q225_69 ?_
  simp only [cd_zwI, cd_zwL, cd_zI, cd_zJ, cd_zcp, true_and, if_true, cd_zk_100]
  exact h
set_option maxRecDepth 1000000 in
set_option maxHeartbeats 8000000 in
theorem cd_s226_0 {x1 : Int32} {x2 : Int32} {L : Nat} {w : Bool} {I : Nat → Nat → Int32} {J : Nat → Nat → Int64} {r : cd_Ret} (h : ((cd_cv (cd_c 216 [.ref 100, .int 2] (cd_mm L w I J))).bind fun m => cd_go 226 3 [.ref 100, .int x1, .int x2, .null] [] m) = some r) : cd_go 226 0 [.ref 100, .int x1, .int x2, .null] [] (cd_mm L w I J) = some r := by
  refine cd_q226_0 ?_
  simp only [cd_zwI, cd_zwL, cd_zI, cd_zJ, cd_zcp, true_and, if_true, cd_zk_100]
  exact h
set_option maxRecDepth 1000000 in
set_option maxHeartbeats 8000000 in
theorem cd_s226_3 {x1 : Int32} {x2 : Int32} {L : Nat} {w : Bool} {I : Nat → Nat → Int32} {J : Nat → Nat → Int64} {r : cd_Ret} (h : (cd_go 226 5 [.ref 100, .int x1, .int x2, .int 0] [] (cd_mm L w I J)) = some r) : cd_go 226 3 [.ref 100, .int x1, .int x2, .null] [] (cd_mm L w I J) = some r := cd_q226_3 h
set_option maxRecDepth 1000000 in
set_option maxHeartbeats 8000000 in
theorem cd_s226_5 {x1 : Int32} {x2 : Int32} {x3 : Int32} {L : Nat} {w : Bool} {I : Nat → Nat → Int32} {J : Nat → Nat → Int64} {r : cd_Ret} (h : (if x3 < ((1 : Int32) <<< ((I 100 9) &&& 31)) then (if (x3 &&& (x1 ^^^ (-1))) = 0 then ((cd_ci (cd_c 225 [.ref 100, .int x3, .int x1, .int x2] (cd_mm L w I J))).bind fun q => cd_go 226 25 [.ref 100, .int x1, .int x2, .int x3] [.int q.1, .int x3, .ref 127] q.2) else cd_go 226 5 [.ref 100, .int x1, .int x2, .int (x3 + 1)] [] (cd_mm L w I J)) else (cd_cv (cd_c 217 [.ref 100, .int 2] (cd_mm L w I J))).bind fun m => cd_go 226 31 [.ref 100, .int x1, .int x2, .int x3] [] m) = some r) : cd_go 226 5 [.ref 100, .int x1, .int x2, .int x3] [] (cd_mm L w I J) = some r := by
  refine cd_q226_5 ?_
  simp only [cd_zwI, cd_zwL, cd_zI, cd_zJ, cd_zcp, true_and, if_true, cd_zk_100, cd_zR_100_49]
  exact h
set_option maxRecDepth 1000000 in
set_option maxHeartbeats 8000000 in
theorem cd_s226_25 {x1 : Int32} {x2 : Int32} {x3 : Int32} {s1 : Int32} {s2 : Int32} {L : Nat} {w : Bool} {I : Nat → Nat → Int32} {J : Nat → Nat → Int64} {r : cd_Ret} (h : (if cd_in s1 4096 = true then (if s2 &&& 1 = s2 then (cd_go 226 5 [.ref 100, .int x1, .int x2, .int (x3 + 1)] [] (cd_mm L w (cd_up I 127 s1.toNatClampNeg s2) J)) else none) else none) = some r) : cd_go 226 25 [.ref 100, .int x1, .int x2, .int x3] [.int s2, .int s1, .ref 127] (cd_mm L w I J) = some r := by
  refine cd_q226_25 ?_
  simp only [cd_zwI, cd_zwL, cd_zI, cd_zJ, cd_zcp, true_and, if_true, cd_zk_127, cd_zn_127]
  exact h
set_option maxRecDepth 1000000 in
set_option maxHeartbeats 8000000 in
theorem cd_s226_31 {x1 : Int32} {x2 : Int32} {x3 : Int32} {L : Nat} {w : Bool} {I : Nat → Nat → Int32} {J : Nat → Nat → Int64} {r : cd_Ret} (h : (some (none, (cd_mm L w I J))) = some r) : cd_go 226 31 [.ref 100, .int x1, .int x2, .int x3] [] (cd_mm L w I J) = some r := cd_q226_31 h
set_option maxRecDepth 1000000 in
set_option maxHeartbeats 8000000 in
theorem cd_s227_0 {x1 : Int32} {x2 : Int32} {L : Nat} {w : Bool} {I : Nat → Nat → Int32} {J : Nat → Nat → Int64} {r : cd_Ret} (h : (cd_go 227 7 [.ref 100, .int x1, .int x2, .int ((1 : Int32) <<< ((I 100 9) &&& 31)), .int 0, .null, .null, .null, .null] [] (cd_mm L w I J)) = some r) : cd_go 227 0 [.ref 100, .int x1, .int x2, .null, .null, .null, .null, .null, .null] [] (cd_mm L w I J) = some r := by
  refine cd_q227_0 ?_
  simp only [cd_zwI, cd_zwL, cd_zI, cd_zJ, cd_zcp, true_and, if_true, cd_zk_100]
  exact h
set_option maxRecDepth 1000000 in
set_option maxHeartbeats 8000000 in
theorem cd_s227_7 {x1 : Int32} {x2 : Int32} {x3 : Int32} {x4 : Int32} {w5 : Value} {w6 : Value} {w7 : Value} {w8 : Value} {L : Nat} {w : Bool} {I : Nat → Nat → Int32} {J : Nat → Nat → Int64} {r : cd_Ret} (h : (if x4 < x3 then (if x2 = 0 then (if (((x3 - 1) - x4) &&& (x1 ^^^ (-1))) = 0 then (if x2 = 0 then (if ((x3 - 1) - x4) = x1 then (cd_go 227 39 [.ref 100, .int x1, .int x2, .int x3, .int x4, .int ((x3 - 1) - x4), .int 1, .int 0, w8] [] (cd_mm L w I J)) else cd_go 227 39 [.ref 100, .int x1, .int x2, .int x3, .int x4, .int ((x3 - 1) - x4), .int 0, .int 0, w8] [] (cd_mm L w I J)) else if ((x3 - 1) - x4) = 0 then (cd_go 227 39 [.ref 100, .int x1, .int x2, .int x3, .int x4, .int ((x3 - 1) - x4), .int 1, .int 0, w8] [] (cd_mm L w I J)) else cd_go 227 39 [.ref 100, .int x1, .int x2, .int x3, .int x4, .int ((x3 - 1) - x4), .int 0, .int 0, w8] [] (cd_mm L w I J)) else cd_go 227 7 [.ref 100, .int x1, .int x2, .int x3, .int (x4 + 1), .int ((x3 - 1) - x4), w6, w7, w8] [] (cd_mm L w I J)) else if (x4 &&& (x1 ^^^ (-1))) = 0 then (if x2 = 0 then (if x4 = x1 then (cd_go 227 39 [.ref 100, .int x1, .int x2, .int x3, .int x4, .int x4, .int 1, .int 0, w8] [] (cd_mm L w I J)) else cd_go 227 39 [.ref 100, .int x1, .int x2, .int x3, .int x4, .int x4, .int 0, .int 0, w8] [] (cd_mm L w I J)) else if x4 = 0 then (cd_go 227 39 [.ref 100, .int x1, .int x2, .int x3, .int x4, .int x4, .int 1, .int 0, w8] [] (cd_mm L w I J)) else cd_go 227 39 [.ref 100, .int x1, .int x2, .int x3, .int x4, .int x4, .int 0, .int 0, w8] [] (cd_mm L w I J)) else cd_go 227 7 [.ref 100, .int x1, .int x2, .int x3, .int (x4 + 1), .int x4, w6, w7, w8] [] (cd_mm L w I J)) else some (none, (cd_mm L w I J))) = some r) : cd_go 227 7 [.ref 100, .int x1, .int x2, .int x3, .int x4, w5, w6, w7, w8] [] (cd_mm L w I J) = some r := cd_q227_7 h
set_option maxRecDepth 1000000 in
set_option maxHeartbeats 8000000 in
theorem cd_s227_39 {x1 : Int32} {x2 : Int32} {x3 : Int32} {x4 : Int32} {x5 : Int32} {x6 : Int32} {x7 : Int32} {w8 : Value} {L : Nat} {w : Bool} {I : Nat → Nat → Int32} {J : Nat → Nat → Int64} {r : cd_Ret} (h : (if x7 < (I 100 9) then (if x6 = 0 then (if x2 = 0 then ((cd_ci (cd_c 139 [.int (x1 &&& (x5 ^^^ (-1))), .int x7] (cd_mm L w I J))).bind fun q => cd_go 227 58 [.ref 100, .int x1, .int x2, .int x3, .int x4, .int x5, .int x6, .int x7, w8] [.int q.1] q.2) else (cd_ci (cd_c 139 [.int x5, .int x7] (cd_mm L w I J))).bind fun q => cd_go 227 50 [.ref 100, .int x1, .int x2, .int x3, .int x4, .int x5, .int x6, .int x7, w8] [.int q.1] q.2) else if cd_in x5 4096 = true then (if x6 &&& 1 = x6 then (cd_go 227 7 [.ref 100, .int x1, .int x2, .int x3, .int (x4 + 1), .int x5, .int x6, .int x7, w8] [] (cd_mm L w (cd_up I 128 x5.toNatClampNeg x6) J)) else none) else none) else if cd_in x5 4096 = true then (if x6 &&& 1 = x6 then (cd_go 227 7 [.ref 100, .int x1, .int x2, .int x3, .int (x4 + 1), .int x5, .int x6, .int x7, w8] [] (cd_mm L w (cd_up I 128 x5.toNatClampNeg x6) J)) else none) else none) = some r) : cd_go 227 39 [.ref 100, .int x1, .int x2, .int x3, .int x4, .int x5, .int x6, .int x7, w8] [] (cd_mm L w I J) = some r := by
  refine cd_q227_39 ?_
  simp only [cd_zwI, cd_zwL, cd_zI, cd_zJ, cd_zcp, true_and, if_true, cd_zk_100, cd_zR_100_50, cd_zk_128, cd_zn_128]
  exact h
set_option maxRecDepth 1000000 in
set_option maxHeartbeats 8000000 in
theorem cd_s227_50 {x1 : Int32} {x2 : Int32} {x3 : Int32} {x4 : Int32} {x5 : Int32} {x6 : Int32} {x7 : Int32} {w8 : Value} {s0 : Int32} {L : Nat} {w : Bool} {I : Nat → Nat → Int32} {J : Nat → Nat → Int64} {r : cd_Ret} (h : (cd_go 227 58 [.ref 100, .int x1, .int x2, .int x3, .int x4, .int x5, .int x6, .int x7, w8] [.int s0] (cd_mm L w I J)) = some r) : cd_go 227 50 [.ref 100, .int x1, .int x2, .int x3, .int x4, .int x5, .int x6, .int x7, w8] [.int s0] (cd_mm L w I J) = some r := cd_q227_50 h
set_option maxRecDepth 1000000 in
set_option maxHeartbeats 8000000 in
theorem cd_s227_58 {x1 : Int32} {x2 : Int32} {x3 : Int32} {x4 : Int32} {x5 : Int32} {x6 : Int32} {x7 : Int32} {w8 : Value} {s0 : Int32} {L : Nat} {w : Bool} {I : Nat → Nat → Int32} {J : Nat → Nat → Int64} {r : cd_Ret} (h : (if s0 = 0 then (cd_go 227 39 [.ref 100, .int x1, .int x2, .int x3, .int x4, .int x5, .int 0, .int (x7 + 1), .int s0] [] (cd_mm L w I J)) else if cd_in (x5 ^^^ ((1 : Int32) <<< (x7 &&& 31))) 4096 = true then (if (I 127 (x5 ^^^ ((1 : Int32) <<< (x7 &&& 31))).toNatClampNeg) = 0 then (cd_go 227 39 [.ref 100, .int x1, .int x2, .int x3, .int x4, .int x5, .int 0, .int (x7 + 1), .int s0] [] (cd_mm L w I J)) else if cd_in (x5 ^^^ ((1 : Int32) <<< (x7 &&& 31))) 4096 = true then (if (I 128 (x5 ^^^ ((1 : Int32) <<< (x7 &&& 31))).toNatClampNeg) = 0 then (cd_go 227 39 [.ref 100, .int x1, .int x2, .int x3, .int x4, .int x5, .int 0, .int (x7 + 1), .int s0] [] (cd_mm L w I J)) else cd_go 227 39 [.ref 100, .int x1, .int x2, .int x3, .int x4, .int x5, .int 1, .int (x7 + 1), .int s0] [] (cd_mm L w I J)) else none) else none) = some r) : cd_go 227 58 [.ref 100, .int x1, .int x2, .int x3, .int x4, .int x5, .int x6, .int x7, w8] [.int s0] (cd_mm L w I J) = some r := by
  refine cd_q227_58 ?_
  simp only [cd_zwI, cd_zwL, cd_zI, cd_zJ, cd_zcp, true_and, if_true, cd_zk_100, cd_zR_100_49, cd_zk_127, cd_zn_127, cd_zR_100_50, cd_zk_128, cd_zn_128]
  exact h
set_option maxRecDepth 1000000 in
set_option maxHeartbeats 8000000 in
theorem cd_s228_0 {x1 : Int32} {x2 : Int32} {x3 : Int32} {L : Nat} {w : Bool} {I : Nat → Nat → Int32} {J : Nat → Nat → Int64} {r : cd_Ret} (h : ((cd_ci (cd_c 138 [.long x1.toInt64, .long 0, .long 4] (cd_mm L w I J))).bind fun q => cd_go 228 5 [.ref 100, .int x1, .int x2, .int x3, .null, .null, .null, .null, .null, .null, .null] [.int q.1] q.2) = some r) : cd_go 228 0 [.ref 100, .int x1, .int x2, .int x3, .null, .null, .null, .null, .null, .null, .null] [] (cd_mm L w I J) = some r := cd_q228_0 h
set_option maxRecDepth 1000000 in
set_option maxHeartbeats 8000000 in
theorem cd_s228_5 {x1 : Int32} {x2 : Int32} {x3 : Int32} {s0 : Int32} {L : Nat} {w : Bool} {I : Nat → Nat → Int32} {J : Nat → Nat → Int64} {r : cd_Ret} (h : (if s0 = 0 then (some (some (.int (-1002)), (cd_mm L w I J))) else (cd_ci (cd_c 224 [.ref 100] (cd_mm L w I J))).bind fun q => cd_go 228 10 [.ref 100, .int x1, .int x2, .int x3, .null, .null, .null, .null, .null, .null, .null] [.int q.1] q.2) = some r) : cd_go 228 5 [.ref 100, .int x1, .int x2, .int x3, .null, .null, .null, .null, .null, .null, .null] [.int s0] (cd_mm L w I J) = some r := by
  refine cd_q228_5 ?_
  simp only [cd_zwI, cd_zwL, cd_zI, cd_zJ, cd_zcp, true_and, if_true, cd_zk_100]
  exact h
set_option maxRecDepth 1000000 in
set_option maxHeartbeats 8000000 in
theorem cd_s228_10 {x1 : Int32} {x2 : Int32} {x3 : Int32} {s0 : Int32} {L : Nat} {w : Bool} {I : Nat → Nat → Int32} {J : Nat → Nat → Int64} {r : cd_Ret} (h : (cd_go 228 15 [.ref 100, .int x1, .int x2, .int x3, .int s0, .int 0, .int 0, .null, .null, .null, .null] [] (cd_mm L w I J)) = some r) : cd_go 228 10 [.ref 100, .int x1, .int x2, .int x3, .null, .null, .null, .null, .null, .null, .null] [.int s0] (cd_mm L w I J) = some r := cd_q228_10 h
set_option maxRecDepth 1000000 in
set_option maxHeartbeats 8000000 in
theorem cd_s228_15 {x1 : Int32} {x2 : Int32} {x3 : Int32} {x4 : Int32} {x5 : Int32} {x6 : Int32} {L : Nat} {w : Bool} {I : Nat → Nat → Int32} {J : Nat → Nat → Int64} {r : cd_Ret} (h : (if x6 < (I 100 9) then ((cd_ci (cd_c 139 [.int x4, .int x6] (cd_mm L w I J))).bind fun q => cd_go 228 23 [.ref 100, .int x1, .int x2, .int x3, .int x4, .int x5, .int x6, .null, .null, .null, .null] [.int q.1, .int x5] q.2) else if 7 < x5 then (some (some (.int (-1003)), (cd_mm L w I J))) else (cd_cv (cd_c 226 [.ref 100, .int x4, .int x1] (cd_mm L w I J))).bind fun m => cd_go 228 40 [.ref 100, .int x1, .int x2, .int x3, .int x4, .int x5, .int x6, .null, .null, .null, .null] [] m) = some r) : cd_go 228 15 [.ref 100, .int x1, .int x2, .int x3, .int x4, .int x5, .int x6, .null, .null, .null, .null] [] (cd_mm L w I J) = some r := by
  refine cd_q228_15 ?_
  simp only [cd_zwI, cd_zwL, cd_zI, cd_zJ, cd_zcp, true_and, if_true, cd_zk_100]
  exact h
set_option maxRecDepth 1000000 in
set_option maxHeartbeats 8000000 in
theorem cd_s228_23 {x1 : Int32} {x2 : Int32} {x3 : Int32} {x4 : Int32} {x5 : Int32} {x6 : Int32} {s0 : Int32} {s1 : Int32} {L : Nat} {w : Bool} {I : Nat → Nat → Int32} {J : Nat → Nat → Int64} {r : cd_Ret} (h : (if s1 = 0 then (cd_go 228 15 [.ref 100, .int x1, .int x2, .int x3, .int x4, .int (s0 + 0), .int (x6 + 1), .null, .null, .null, .null] [] (cd_mm L w I J)) else cd_go 228 15 [.ref 100, .int x1, .int x2, .int x3, .int x4, .int (s0 + 1), .int (x6 + 1), .null, .null, .null, .null] [] (cd_mm L w I J)) = some r) : cd_go 228 23 [.ref 100, .int x1, .int x2, .int x3, .int x4, .int x5, .int x6, .null, .null, .null, .null] [.int s1, .int s0] (cd_mm L w I J) = some r := cd_q228_23 h
set_option maxRecDepth 1000000 in
set_option maxHeartbeats 8000000 in
theorem cd_s228_40 {x1 : Int32} {x2 : Int32} {x3 : Int32} {x4 : Int32} {x5 : Int32} {x6 : Int32} {L : Nat} {w : Bool} {I : Nat → Nat → Int32} {J : Nat → Nat → Int64} {r : cd_Ret} (h : ((cd_cv (cd_c 227 [.ref 100, .int x4, .int x2] (cd_mm L w I J))).bind fun m => cd_go 228 44 [.ref 100, .int x1, .int x2, .int x3, .int x4, .int x5, .int x6, .null, .null, .null, .null] [] m) = some r) : cd_go 228 40 [.ref 100, .int x1, .int x2, .int x3, .int x4, .int x5, .int x6, .null, .null, .null, .null] [] (cd_mm L w I J) = some r := by
  refine cd_q228_40 ?_
  simp only [cd_zwI, cd_zwL, cd_zI, cd_zJ, cd_zcp, true_and, if_true, cd_zk_100]
  exact h
set_option maxRecDepth 1000000 in
set_option maxHeartbeats 8000000 in
theorem cd_s228_44 {x1 : Int32} {x2 : Int32} {x3 : Int32} {x4 : Int32} {x5 : Int32} {x6 : Int32} {L : Nat} {w : Bool} {I : Nat → Nat → Int32} {J : Nat → Nat → Int64} {r : cd_Ret} (h : (if x2 = 0 then (if cd_in 0 4096 = true then (if (I 128 (0 : Int32).toNatClampNeg) = 0 then (some (some (.int (-1)), (cd_mm L w I J))) else if x3 = (-1) then (some (some (.int 1), (cd_mm L w I J))) else cd_go 228 66 [.ref 100, .int x1, .int x2, .int x3, .int x4, .int x5, .int 0, .int (-1), .int 0, .null, .null] [] (cd_mm L w I J)) else none) else if cd_in x4 4096 = true then (if (I 128 x4.toNatClampNeg) = 0 then (some (some (.int (-1)), (cd_mm L w I J))) else if x3 = (-1) then (some (some (.int 1), (cd_mm L w I J))) else cd_go 228 66 [.ref 100, .int x1, .int x2, .int x3, .int x4, .int x5, .int x4, .int (-1), .int 0, .null, .null] [] (cd_mm L w I J)) else none) = some r) : cd_go 228 44 [.ref 100, .int x1, .int x2, .int x3, .int x4, .int x5, .int x6, .null, .null, .null, .null] [] (cd_mm L w I J) = some r := by
  refine cd_q228_44 ?_
  simp only [cd_zwI, cd_zwL, cd_zI, cd_zJ, cd_zcp, true_and, if_true, cd_zk_100, cd_zR_100_50, cd_zk_128, cd_zn_128]
  exact h
set_option maxRecDepth 1000000 in
set_option maxHeartbeats 8000000 in
theorem cd_s228_66 {x1 : Int32} {x2 : Int32} {x3 : Int32} {x4 : Int32} {x5 : Int32} {x6 : Int32} {x7 : Int32} {x8 : Int32} {w9 : Value} {w10 : Value} {L : Nat} {w : Bool} {I : Nat → Nat → Int32} {J : Nat → Nat → Int64} {r : cd_Ret} (h : (if x3 < x8 then ((cd_ci (cd_c 138 [.long x3.toInt64, .long 0, .long ((x5 - 1).toInt64)] (cd_mm L w I J))).bind fun q => cd_go 228 137 [.ref 100, .int x1, .int x2, .int x3, .int x4, .int x5, .int x6, .int x7, .int x8, w9, w10] [.int q.1] q.2) else if x8 < x5 then (cd_go 228 79 [.ref 100, .int x1, .int x2, .int x3, .int x4, .int x5, .int x6, .int (-1), .int x8, .int ((I 100 9) - 1), w10] [] (cd_mm L w I J)) else (cd_ci (cd_c 138 [.long x3.toInt64, .long 0, .long ((x5 - 1).toInt64)] (cd_mm L w I J))).bind fun q => cd_go 228 137 [.ref 100, .int x1, .int x2, .int x3, .int x4, .int x5, .int x6, .int x7, .int x8, w9, w10] [.int q.1] q.2) = some r) : cd_go 228 66 [.ref 100, .int x1, .int x2, .int x3, .int x4, .int x5, .int x6, .int x7, .int x8, w9, w10] [] (cd_mm L w I J) = some r := by
  refine cd_q228_66 ?_
  simp only [cd_zwI, cd_zwL, cd_zI, cd_zJ, cd_zcp, true_and, if_true, cd_zk_100]
  exact h
set_option maxRecDepth 1000000 in
set_option maxHeartbeats 8000000 in
theorem cd_s228_79 {x1 : Int32} {x2 : Int32} {x3 : Int32} {x4 : Int32} {x5 : Int32} {x6 : Int32} {x7 : Int32} {x8 : Int32} {x9 : Int32} {w10 : Value} {L : Nat} {w : Bool} {I : Nat → Nat → Int32} {J : Nat → Nat → Int64} {r : cd_Ret} (h : (if x9 < 0 then (cd_go 228 66 [.ref 100, .int x1, .int x2, .int x3, .int x4, .int x5, .int (x6 ^^^ ((1 : Int32) <<< (x7 &&& 31))), .int x7, .int (x8 + 1), .int x9, w10] [] (cd_mm L w I J)) else if x2 = 0 then ((cd_ci (cd_c 139 [.int (x4 &&& (x6 ^^^ (-1))), .int x9] (cd_mm L w I J))).bind fun q => cd_go 228 94 [.ref 100, .int x1, .int x2, .int x3, .int x4, .int x5, .int x6, .int x7, .int x8, .int x9, w10] [.int q.1] q.2) else (cd_ci (cd_c 139 [.int x6, .int x9] (cd_mm L w I J))).bind fun q => cd_go 228 86 [.ref 100, .int x1, .int x2, .int x3, .int x4, .int x5, .int x6, .int x7, .int x8, .int x9, w10] [.int q.1] q.2) = some r) : cd_go 228 79 [.ref 100, .int x1, .int x2, .int x3, .int x4, .int x5, .int x6, .int x7, .int x8, .int x9, w10] [] (cd_mm L w I J) = some r := cd_q228_79 h
set_option maxRecDepth 1000000 in
set_option maxHeartbeats 8000000 in
theorem cd_s228_86 {x1 : Int32} {x2 : Int32} {x3 : Int32} {x4 : Int32} {x5 : Int32} {x6 : Int32} {x7 : Int32} {x8 : Int32} {x9 : Int32} {w10 : Value} {s0 : Int32} {L : Nat} {w : Bool} {I : Nat → Nat → Int32} {J : Nat → Nat → Int64} {r : cd_Ret} (h : (cd_go 228 94 [.ref 100, .int x1, .int x2, .int x3, .int x4, .int x5, .int x6, .int x7, .int x8, .int x9, w10] [.int s0] (cd_mm L w I J)) = some r) : cd_go 228 86 [.ref 100, .int x1, .int x2, .int x3, .int x4, .int x5, .int x6, .int x7, .int x8, .int x9, w10] [.int s0] (cd_mm L w I J) = some r := cd_q228_86 h
set_option maxRecDepth 1000000 in
set_option maxHeartbeats 8000000 in
theorem cd_s228_94 {x1 : Int32} {x2 : Int32} {x3 : Int32} {x4 : Int32} {x5 : Int32} {x6 : Int32} {x7 : Int32} {x8 : Int32} {x9 : Int32} {w10 : Value} {s0 : Int32} {L : Nat} {w : Bool} {I : Nat → Nat → Int32} {J : Nat → Nat → Int64} {r : cd_Ret} (h : (if s0 = 0 then (cd_go 228 79 [.ref 100, .int x1, .int x2, .int x3, .int x4, .int x5, .int x6, .int x7, .int x8, .int (x9 + (-1)), .int s0] [] (cd_mm L w I J)) else if cd_in (x6 ^^^ ((1 : Int32) <<< (x9 &&& 31))) 4096 = true then (if (I 127 (x6 ^^^ ((1 : Int32) <<< (x9 &&& 31))).toNatClampNeg) = 0 then (cd_go 228 79 [.ref 100, .int x1, .int x2, .int x3, .int x4, .int x5, .int x6, .int x7, .int x8, .int (x9 + (-1)), .int s0] [] (cd_mm L w I J)) else if cd_in (x6 ^^^ ((1 : Int32) <<< (x9 &&& 31))) 4096 = true then (if (I 128 (x6 ^^^ ((1 : Int32) <<< (x9 &&& 31))).toNatClampNeg) = 0 then (cd_go 228 79 [.ref 100, .int x1, .int x2, .int x3, .int x4, .int x5, .int x6, .int x7, .int x8, .int (x9 + (-1)), .int s0] [] (cd_mm L w I J)) else cd_go 228 79 [.ref 100, .int x1, .int x2, .int x3, .int x4, .int x5, .int x6, .int x9, .int x8, .int (x9 + (-1)), .int s0] [] (cd_mm L w I J)) else none) else none) = some r) : cd_go 228 94 [.ref 100, .int x1, .int x2, .int x3, .int x4, .int x5, .int x6, .int x7, .int x8, .int x9, w10] [.int s0] (cd_mm L w I J) = some r := by
  refine cd_q228_94 ?_
  simp only [cd_zwI, cd_zwL, cd_zI, cd_zJ, cd_zcp, true_and, if_true, cd_zk_100, cd_zR_100_49, cd_zk_127, cd_zn_127, cd_zR_100_50, cd_zk_128, cd_zn_128]
  exact h
set_option maxRecDepth 1000000 in
set_option maxHeartbeats 8000000 in
theorem cd_s228_137 {x1 : Int32} {x2 : Int32} {x3 : Int32} {x4 : Int32} {x5 : Int32} {x6 : Int32} {x7 : Int32} {x8 : Int32} {w9 : Value} {w10 : Value} {s0 : Int32} {L : Nat} {w : Bool} {I : Nat → Nat → Int32} {J : Nat → Nat → Int64} {r : cd_Ret} (h : (if s0 = 0 then (some (some (.int (-1)), (cd_mm L w I J))) else some (some (.int x7), (cd_mm L w I J))) = some r) : cd_go 228 137 [.ref 100, .int x1, .int x2, .int x3, .int x4, .int x5, .int x6, .int x7, .int x8, w9, w10] [.int s0] (cd_mm L w I J) = some r := cd_q228_137 h
set_option maxRecDepth 1000000 in
set_option maxHeartbeats 8000000 in
theorem cd_s229_0 {x1 : Int32} {L : Nat} {w : Bool} {I : Nat → Nat → Int32} {J : Nat → Nat → Int64} {r : cd_Ret} (h : ((cd_ci (cd_c 138 [.long x1.toInt64, .long 0, .long ((((1 : Int32) <<< ((I 100 9) &&& 31)) - 1).toInt64)] (cd_mm L w I J))).bind fun q => cd_go 229 11 [.ref 100, .int x1, .null, .null, .null] [.int q.1] q.2) = some r) : cd_go 229 0 [.ref 100, .int x1, .null, .null, .null] [] (cd_mm L w I J) = some r := by
  refine cd_q229_0 ?_
  simp only [cd_zwI, cd_zwL, cd_zI, cd_zJ, cd_zcp, true_and, if_true, cd_zk_100]
  exact h
set_option maxRecDepth 1000000 in
set_option maxHeartbeats 8000000 in
theorem cd_s229_11 {x1 : Int32} {s0 : Int32} {L : Nat} {w : Bool} {I : Nat → Nat → Int32} {J : Nat → Nat → Int64} {r : cd_Ret} (h : (if s0 = 0 then (some (some (.int (-1001)), (cd_mm L w I J))) else (cd_cv (cd_c 216 [.ref 100, .int 2] (cd_mm L w I J))).bind fun m => cd_go 229 17 [.ref 100, .int x1, .null, .null, .null] [] m) = some r) : cd_go 229 11 [.ref 100, .int x1, .null, .null, .null] [.int s0] (cd_mm L w I J) = some r := by
  refine cd_q229_11 ?_
  simp only [cd_zwI, cd_zwL, cd_zI, cd_zJ, cd_zcp, true_and, if_true, cd_zk_100]
  exact h
set_option maxRecDepth 1000000 in
set_option maxHeartbeats 8000000 in
theorem cd_s229_17 {x1 : Int32} {L : Nat} {w : Bool} {I : Nat → Nat → Int32} {J : Nat → Nat → Int64} {r : cd_Ret} (h : (cd_go 229 21 [.ref 100, .int x1, .int 0, .int 0, .null] [] (cd_mm L w I J)) = some r) : cd_go 229 17 [.ref 100, .int x1, .null, .null, .null] [] (cd_mm L w I J) = some r := cd_q229_17 h
set_option maxRecDepth 1000000 in
set_option maxHeartbeats 8000000 in
theorem cd_s229_21 {x1 : Int32} {x2 : Int32} {x3 : Int32} {w4 : Value} {L : Nat} {w : Bool} {I : Nat → Nat → Int32} {J : Nat → Nat → Int64} {r : cd_Ret} (h : (if x3 < (I 100 9) then (if cd_in x3 12 = true then (if (I 112 x3.toNatClampNeg) = 0 then (cd_go 229 57 [.ref 100, .int x1, .int x2, .int x3, w4] [] (cd_mm L w I J)) else if cd_in x3 12 = true then ((cd_ci (cd_c 195 [.ref 100, .int (-1), .int 0] (cd_mm L w (cd_up I 112 x3.toNatClampNeg 0) J))).bind fun q => cd_go 229 39 [.ref 100, .int x1, .int x2, .int x3, w4] [.int q.1] q.2) else none) else none) else some (some (.int x2), (cd_mm L w I J))) = some r) : cd_go 229 21 [.ref 100, .int x1, .int x2, .int x3, w4] [] (cd_mm L w I J) = some r := by
  refine cd_q229_21 ?_
  simp only [cd_zwI, cd_zwL, cd_zI, cd_zJ, cd_zcp, true_and, if_true, cd_zk_100, cd_zR_100_14, cd_zk_112, cd_zn_112]
  exact h
set_option maxRecDepth 1000000 in
set_option maxHeartbeats 8000000 in
theorem cd_s229_39 {x1 : Int32} {x2 : Int32} {x3 : Int32} {w4 : Value} {s0 : Int32} {L : Nat} {w : Bool} {I : Nat → Nat → Int32} {J : Nat → Nat → Int64} {r : cd_Ret} (h : (if s0 < 0 then ((cd_cv (cd_c 217 [.ref 100, .int 2] (cd_mm L w I J))).bind fun m => cd_go 229 57 [.ref 100, .int x1, .int (x2 ||| 0), .int x3, .int s0] [] m) else (cd_ci (cd_c 224 [.ref 100] (cd_mm L w I J))).bind fun q => cd_go 229 45 [.ref 100, .int x1, .int x2, .int x3, .int s0] [.int q.1, .int x2] q.2) = some r) : cd_go 229 39 [.ref 100, .int x1, .int x2, .int x3, w4] [.int s0] (cd_mm L w I J) = some r := by
  refine cd_q229_39 ?_
  simp only [cd_zwI, cd_zwL, cd_zI, cd_zJ, cd_zcp, true_and, if_true, cd_zk_100]
  exact h
set_option maxRecDepth 1000000 in
set_option maxHeartbeats 8000000 in
theorem cd_s229_45 {x1 : Int32} {x2 : Int32} {x3 : Int32} {x4 : Int32} {s0 : Int32} {s1 : Int32} {L : Nat} {w : Bool} {I : Nat → Nat → Int32} {J : Nat → Nat → Int64} {r : cd_Ret} (h : (if s1 = x1 then ((cd_cv (cd_c 217 [.ref 100, .int 2] (cd_mm L w I J))).bind fun m => cd_go 229 57 [.ref 100, .int x1, .int (s0 ||| ((1 : Int32) <<< (x3 &&& 31))), .int x3, .int x4] [] m) else (cd_cv (cd_c 217 [.ref 100, .int 2] (cd_mm L w I J))).bind fun m => cd_go 229 57 [.ref 100, .int x1, .int (s0 ||| 0), .int x3, .int x4] [] m) = some r) : cd_go 229 45 [.ref 100, .int x1, .int x2, .int x3, .int x4] [.int s1, .int s0] (cd_mm L w I J) = some r := by
  refine cd_q229_45 ?_
  simp only [cd_zwI, cd_zwL, cd_zI, cd_zJ, cd_zcp, true_and, if_true, cd_zk_100]
  exact h
set_option maxRecDepth 1000000 in
set_option maxHeartbeats 8000000 in
theorem cd_s229_57 {x1 : Int32} {x2 : Int32} {x3 : Int32} {w4 : Value} {L : Nat} {w : Bool} {I : Nat → Nat → Int32} {J : Nat → Nat → Int64} {r : cd_Ret} (h : (cd_go 229 21 [.ref 100, .int x1, .int x2, .int (x3 + 1), w4] [] (cd_mm L w I J)) = some r) : cd_go 229 57 [.ref 100, .int x1, .int x2, .int x3, w4] [] (cd_mm L w I J) = some r := cd_q229_57 h
set_option maxRecDepth 1000000 in
set_option maxHeartbeats 8000000 in
theorem cd_s230_0 {x1 : Int32} {x2 : Int32} {x3 : Int32} {x4 : Int32} {L : Nat} {w : Bool} {I : Nat → Nat → Int32} {J : Nat → Nat → Int64} {r : cd_Ret} (h : (if cd_in x1 12 = true then (if cd_in x2 12 = true then (if cd_in x1 12 = true then (if cd_in x2 12 = true then ((cd_ci (cd_c 193 [.ref 100, .int x3, .int x4] (cd_mm L w (cd_up (cd_up I 110 x1.toNatClampNeg 3) 110 x2.toNatClampNeg 3) J))).bind fun q => cd_go 230 24 [.ref 100, .int x1, .int x2, .int x3, .int x4, .int (I 110 x1.toNatClampNeg), .int (I 110 x2.toNatClampNeg), .null] [.int q.1] q.2) else none) else none) else none) else none) = some r) : cd_go 230 0 [.ref 100, .int x1, .int x2, .int x3, .int x4, .null, .null, .null] [] (cd_mm L w I J) = some r := by
  refine cd_q230_0 ?_
  simp only [cd_zwI, cd_zwL, cd_zI, cd_zJ, cd_zcp, true_and, if_true, cd_zk_100, cd_zR_100_12, cd_zk_110, cd_zn_110]
  exact h
set_option maxRecDepth 1000000 in
set_option maxHeartbeats 8000000 in
theorem cd_s230_24 {x1 : Int32} {x2 : Int32} {x3 : Int32} {x4 : Int32} {x5 : Int32} {x6 : Int32} {s0 : Int32} {L : Nat} {w : Bool} {I : Nat → Nat → Int32} {J : Nat → Nat → Int64} {r : cd_Ret} (h : (if s0 < 0 then (if cd_in x2 12 = true then (if cd_in x1 12 = true then (some (some (.int 1), (cd_mm L w (cd_up (cd_up I 110 x2.toNatClampNeg x6) 110 x1.toNatClampNeg x5) J))) else none) else none) else if cd_in x2 12 = true then (if cd_in x1 12 = true then (some (some (.int 0), (cd_mm L w (cd_up (cd_up I 110 x2.toNatClampNeg x6) 110 x1.toNatClampNeg x5) J))) else none) else none) = some r) : cd_go 230 24 [.ref 100, .int x1, .int x2, .int x3, .int x4, .int x5, .int x6, .null] [.int s0] (cd_mm L w I J) = some r := by
  refine cd_q230_24 ?_
  simp only [cd_zwI, cd_zwL, cd_zI, cd_zJ, cd_zcp, true_and, if_true, cd_zk_100, cd_zR_100_12, cd_zk_110, cd_zn_110]
  exact h
set_option maxRecDepth 1000000 in
set_option maxHeartbeats 8000000 in
theorem cd_s231_0 {x1 : Int32} {x2 : Int32} {L : Nat} {w : Bool} {I : Nat → Nat → Int32} {J : Nat → Nat → Int64} {r : cd_Ret} (h : ((cd_ci (cd_c 141 [.ref 100, .int x1] (cd_mm L w I J))).bind fun q => cd_go 231 3 [.ref 100, .int x1, .int x2, .null, .null] [.int q.1] q.2) = some r) : cd_go 231 0 [.ref 100, .int x1, .int x2, .null, .null] [] (cd_mm L w I J) = some r := by
  refine cd_q231_0 ?_
  simp only [cd_zwI, cd_zwL, cd_zI, cd_zJ, cd_zcp, true_and, if_true, cd_zk_100]
  exact h
set_option maxRecDepth 1000000 in
set_option maxHeartbeats 8000000 in
theorem cd_s231_3 {x1 : Int32} {x2 : Int32} {s0 : Int32} {L : Nat} {w : Bool} {I : Nat → Nat → Int32} {J : Nat → Nat → Int64} {r : cd_Ret} (h : (if s0 = 0 then (some (some (.int (-1001)), (cd_mm L w I J))) else (cd_ci (cd_c 143 [.int x2] (cd_mm L w I J))).bind fun q => cd_go 231 8 [.ref 100, .int x1, .int x2, .null, .null] [.int q.1] q.2) = some r) : cd_go 231 3 [.ref 100, .int x1, .int x2, .null, .null] [.int s0] (cd_mm L w I J) = some r := cd_q231_3 h
set_option maxRecDepth 1000000 in
set_option maxHeartbeats 8000000 in
theorem cd_s231_8 {x1 : Int32} {x2 : Int32} {s0 : Int32} {L : Nat} {w : Bool} {I : Nat → Nat → Int32} {J : Nat → Nat → Int64} {r : cd_Ret} (h : (if s0 = 0 then (some (some (.int (-1002)), (cd_mm L w I J))) else (cd_ci (cd_c 193 [.ref 100, .int x1, .int x2] (cd_mm L w I J))).bind fun q => cd_go 231 15 [.ref 100, .int x1, .int x2, .null, .null] [.int q.1] q.2) = some r) : cd_go 231 8 [.ref 100, .int x1, .int x2, .null, .null] [.int s0] (cd_mm L w I J) = some r := by
  refine cd_q231_8 ?_
  simp only [cd_zwI, cd_zwL, cd_zI, cd_zJ, cd_zcp, true_and, if_true, cd_zk_100]
  exact h
set_option maxRecDepth 1000000 in
set_option maxHeartbeats 8000000 in
theorem cd_s231_15 {x1 : Int32} {x2 : Int32} {s0 : Int32} {L : Nat} {w : Bool} {I : Nat → Nat → Int32} {J : Nat → Nat → Int64} {r : cd_Ret} (h : (if s0 < 0 then (some (some (.int 0), (cd_mm L w I J))) else cd_go 231 20 [.ref 100, .int x1, .int x2, .int 0, .null] [] (cd_mm L w I J)) = some r) : cd_go 231 15 [.ref 100, .int x1, .int x2, .null, .null] [.int s0] (cd_mm L w I J) = some r := cd_q231_15 h
set_option maxRecDepth 1000000 in
set_option maxHeartbeats 8000000 in
theorem cd_s231_20 {x1 : Int32} {x2 : Int32} {x3 : Int32} {L : Nat} {w : Bool} {I : Nat → Nat → Int32} {J : Nat → Nat → Int64} {r : cd_Ret} (h : (if x3 < (I 100 9) then (if cd_in x3 12 = true then (if (I 112 x3.toNatClampNeg) = 0 then (cd_go 231 20 [.ref 100, .int x1, .int x2, .int (x3 + 1), .null] [] (cd_mm L w I J)) else (cd_ci (cd_c 230 [.ref 100, .int x3, .int x3, .int x1, .int x2] (cd_mm L w I J))).bind fun q => cd_go 231 35 [.ref 100, .int x1, .int x2, .int x3, .null] [.int q.1] q.2) else none) else cd_go 231 44 [.ref 100, .int x1, .int x2, .int 0, .null] [] (cd_mm L w I J)) = some r) : cd_go 231 20 [.ref 100, .int x1, .int x2, .int x3, .null] [] (cd_mm L w I J) = some r := by
  refine cd_q231_20 ?_
  simp only [cd_zwI, cd_zwL, cd_zI, cd_zJ, cd_zcp, true_and, if_true, cd_zk_100, cd_zR_100_14, cd_zk_112, cd_zn_112]
  exact h
set_option maxRecDepth 1000000 in
set_option maxHeartbeats 8000000 in
theorem cd_s231_35 {x1 : Int32} {x2 : Int32} {x3 : Int32} {s0 : Int32} {L : Nat} {w : Bool} {I : Nat → Nat → Int32} {J : Nat → Nat → Int64} {r : cd_Ret} (h : (if s0 = 0 then (cd_go 231 20 [.ref 100, .int x1, .int x2, .int (x3 + 1), .null] [] (cd_mm L w I J)) else some (some (.int ((1 : Int32) <<< (x3 &&& 31))), (cd_mm L w I J))) = some r) : cd_go 231 35 [.ref 100, .int x1, .int x2, .int x3, .null] [.int s0] (cd_mm L w I J) = some r := cd_q231_35 h
set_option maxRecDepth 1000000 in
set_option maxHeartbeats 8000000 in
theorem cd_s231_44 {x1 : Int32} {x2 : Int32} {x3 : Int32} {w4 : Value} {L : Nat} {w : Bool} {I : Nat → Nat → Int32} {J : Nat → Nat → Int64} {r : cd_Ret} (h : (if x3 < (I 100 9) then (cd_go 231 50 [.ref 100, .int x1, .int x2, .int x3, .int 0] [] (cd_mm L w I J)) else some (some (.int (-1)), (cd_mm L w I J))) = some r) : cd_go 231 44 [.ref 100, .int x1, .int x2, .int x3, w4] [] (cd_mm L w I J) = some r := by
  refine cd_q231_44 ?_
  simp only [cd_zwI, cd_zwL, cd_zI, cd_zJ, cd_zcp, true_and, if_true, cd_zk_100]
  exact h
set_option maxRecDepth 1000000 in
set_option maxHeartbeats 8000000 in
theorem cd_s231_50 {x1 : Int32} {x2 : Int32} {x3 : Int32} {x4 : Int32} {L : Nat} {w : Bool} {I : Nat → Nat → Int32} {J : Nat → Nat → Int64} {r : cd_Ret} (h : (if x4 < x3 then (if cd_in x3 12 = true then (if (I 112 x3.toNatClampNeg) = 0 then (cd_go 231 50 [.ref 100, .int x1, .int x2, .int x3, .int (x4 + 1)] [] (cd_mm L w I J)) else if cd_in x4 12 = true then (if (I 112 x4.toNatClampNeg) = 0 then (cd_go 231 50 [.ref 100, .int x1, .int x2, .int x3, .int (x4 + 1)] [] (cd_mm L w I J)) else (cd_ci (cd_c 230 [.ref 100, .int x4, .int x3, .int x1, .int x2] (cd_mm L w I J))).bind fun q => cd_go 231 69 [.ref 100, .int x1, .int x2, .int x3, .int x4] [.int q.1] q.2) else none) else none) else cd_go 231 44 [.ref 100, .int x1, .int x2, .int (x3 + 1), .int x4] [] (cd_mm L w I J)) = some r) : cd_go 231 50 [.ref 100, .int x1, .int x2, .int x3, .int x4] [] (cd_mm L w I J) = some r := by
  refine cd_q231_50 ?_
  simp only [cd_zwI, cd_zwL, cd_zI, cd_zJ, cd_zcp, true_and, if_true, cd_zk_100, cd_zR_100_14, cd_zk_112, cd_zn_112]
  exact h
set_option maxRecDepth 1000000 in
set_option maxHeartbeats 8000000 in
theorem cd_s231_69 {x1 : Int32} {x2 : Int32} {x3 : Int32} {x4 : Int32} {s0 : Int32} {L : Nat} {w : Bool} {I : Nat → Nat → Int32} {J : Nat → Nat → Int64} {r : cd_Ret} (h : (if s0 = 0 then (cd_go 231 50 [.ref 100, .int x1, .int x2, .int x3, .int (x4 + 1)] [] (cd_mm L w I J)) else some (some (.int (((1 : Int32) <<< (x3 &&& 31)) ||| ((1 : Int32) <<< (x4 &&& 31)))), (cd_mm L w I J))) = some r) : cd_go 231 69 [.ref 100, .int x1, .int x2, .int x3, .int x4] [.int s0] (cd_mm L w I J) = some r := cd_q231_69 h
set_option maxRecDepth 1000000 in
set_option maxHeartbeats 8000000 in
theorem cd_s232_0 {x1 : Int32} {x2 : Int32} {x3 : Int32} {L : Nat} {w : Bool} {I : Nat → Nat → Int32} {J : Nat → Nat → Int64} {r : cd_Ret} (h : ((cd_ci (cd_c 142 [.ref 100, .int x1] (cd_mm L w I J))).bind fun q => cd_go 232 3 [.ref 100, .int x1, .int x2, .int x3, .null] [.int q.1] q.2) = some r) : cd_go 232 0 [.ref 100, .int x1, .int x2, .int x3, .null] [] (cd_mm L w I J) = some r := by
  refine cd_q232_0 ?_
  simp only [cd_zwI, cd_zwL, cd_zI, cd_zJ, cd_zcp, true_and, if_true, cd_zk_100]
  exact h
set_option maxRecDepth 1000000 in
set_option maxHeartbeats 8000000 in
theorem cd_s232_3 {x1 : Int32} {x2 : Int32} {x3 : Int32} {s0 : Int32} {L : Nat} {w : Bool} {I : Nat → Nat → Int32} {J : Nat → Nat → Int64} {r : cd_Ret} (h : (if s0 = 0 then (some (some (.int (-1001)), (cd_mm L w I J))) else (cd_ci (cd_c 138 [.long x2.toInt64, .long 0, .long 4] (cd_mm L w I J))).bind fun q => cd_go 232 11 [.ref 100, .int x1, .int x2, .int x3, .null] [.int q.1] q.2) = some r) : cd_go 232 3 [.ref 100, .int x1, .int x2, .int x3, .null] [.int s0] (cd_mm L w I J) = some r := cd_q232_3 h
set_option maxRecDepth 1000000 in
set_option maxHeartbeats 8000000 in
theorem cd_s232_11 {x1 : Int32} {x2 : Int32} {x3 : Int32} {s0 : Int32} {L : Nat} {w : Bool} {I : Nat → Nat → Int32} {J : Nat → Nat → Int64} {r : cd_Ret} (h : (if s0 = 0 then (some (some (.int (-1002)), (cd_mm L w I J))) else if x2 = 2 then ((cd_ci (cd_c 138 [.long x3.toInt64, .long 1, .long 99] (cd_mm L w I J))).bind fun q => cd_go 232 20 [.ref 100, .int x1, .int x2, .int x3, .null] [.int q.1] q.2) else cd_go 232 23 [.ref 100, .int x1, .int x2, .int x3, .null] [] (cd_mm L w I J)) = some r) : cd_go 232 11 [.ref 100, .int x1, .int x2, .int x3, .null] [.int s0] (cd_mm L w I J) = some r := cd_q232_11 h
set_option maxRecDepth 1000000 in
set_option maxHeartbeats 8000000 in
theorem cd_s232_20 {x1 : Int32} {x2 : Int32} {x3 : Int32} {s0 : Int32} {L : Nat} {w : Bool} {I : Nat → Nat → Int32} {J : Nat → Nat → Int64} {r : cd_Ret} (h : (if s0 = 0 then (some (some (.int (-1002)), (cd_mm L w I J))) else cd_go 232 23 [.ref 100, .int x1, .int x2, .int x3, .null] [] (cd_mm L w I J)) = some r) : cd_go 232 20 [.ref 100, .int x1, .int x2, .int x3, .null] [.int s0] (cd_mm L w I J) = some r := cd_q232_20 h
set_option maxRecDepth 1000000 in
set_option maxHeartbeats 8000000 in
theorem cd_s232_23 {x1 : Int32} {x2 : Int32} {x3 : Int32} {L : Nat} {w : Bool} {I : Nat → Nat → Int32} {J : Nat → Nat → Int64} {r : cd_Ret} (h : (if cd_in x1 12 = true then (if cd_in x1 12 = true then (if cd_in (I 109 x1.toNatClampNeg) 8 = true then ((cd_ci (cd_c 150 [.ref 100, .int (I 108 x1.toNatClampNeg), .int (I 101 (I 109 x1.toNatClampNeg).toNatClampNeg)] (cd_mm L w I J))).bind fun q => cd_go 232 36 [.ref 100, .int x1, .int x2, .int x3, .null] [.int q.1] q.2) else none) else none) else none) = some r) : cd_go 232 23 [.ref 100, .int x1, .int x2, .int x3, .null] [] (cd_mm L w I J) = some r := by
  refine cd_q232_23 ?_
  simp only [cd_zwI, cd_zwL, cd_zI, cd_zJ, cd_zcp, true_and, if_true, cd_zk_100, cd_zR_100_10, cd_zk_108, cd_zn_108, cd_zR_100_1, cd_zR_100_11, cd_zk_109, cd_zn_109, cd_zk_101, cd_zn_101]
  exact h
set_option maxRecDepth 1000000 in
set_option maxHeartbeats 8000000 in
theorem cd_s232_36 {x1 : Int32} {x2 : Int32} {x3 : Int32} {s0 : Int32} {L : Nat} {w : Bool} {I : Nat → Nat → Int32} {J : Nat → Nat → Int64} {r : cd_Ret} (h : (if s0 = 0 then (some (some (.int (-1003)), (cd_mm L w I J))) else if cd_in x1 12 = true then (if cd_in x1 12 = true then (if x2 = 2 then (if cd_in x1 12 = true then (if cd_in x1 12 = true then (some (some (.int (I 110 x1.toNatClampNeg)), (cd_mm L w (cd_up (cd_up (cd_up I 110 x1.toNatClampNeg x2) 111 x1.toNatClampNeg x3) 112 x1.toNatClampNeg 1) J))) else none) else none) else if cd_in x1 12 = true then (if cd_in x1 12 = true then (some (some (.int (I 110 x1.toNatClampNeg)), (cd_mm L w (cd_up (cd_up (cd_up I 110 x1.toNatClampNeg x2) 111 x1.toNatClampNeg 0) 112 x1.toNatClampNeg 1) J))) else none) else none) else none) else none) = some r) : cd_go 232 36 [.ref 100, .int x1, .int x2, .int x3, .null] [.int s0] (cd_mm L w I J) = some r := by
  refine cd_q232_36 ?_
  simp only [cd_zwI, cd_zwL, cd_zI, cd_zJ, cd_zcp, true_and, if_true, cd_zk_100, cd_zR_100_12, cd_zk_110, cd_zn_110, cd_zR_100_13, cd_zk_111, cd_zn_111, cd_zR_100_14, cd_zk_112, cd_zn_112]
  exact h
set_option maxRecDepth 1000000 in
set_option maxHeartbeats 8000000 in
theorem cd_s233_0 {x1 : Int32} {o : Nat} (ho : o = 102 ∨ o = 103) {L : Nat} {w : Bool} {I : Nat → Nat → Int32} {J : Nat → Nat → Int64} {r : cd_Ret} (h : (cd_go 233 4 [.ref 100, .int x1, .ref o, .int 0, .int 0] [] (cd_mm L w I J)) = some r) : cd_go 233 0 [.ref 100, .int x1, .ref o, .null, .null] [] (cd_mm L w I J) = some r := cd_q233_0 h
set_option maxRecDepth 1000000 in
set_option maxHeartbeats 8000000 in
theorem cd_s233_4 {x1 : Int32} {x3 : Int32} {x4 : Int32} {o : Nat} (ho : o = 102 ∨ o = 103) {L : Nat} {w : Bool} {I : Nat → Nat → Int32} {J : Nat → Nat → Int64} {r : cd_Ret} (h : (if x4 < (I 100 0) then ((cd_ci (cd_c 139 [.int x1, .int x4] (cd_mm L w I J))).bind fun q => cd_go 233 12 [.ref 100, .int x1, .ref o, .int x3, .int x4] [.int q.1, .int x3] q.2) else some (some (.int x3), (cd_mm L w I J))) = some r) : cd_go 233 4 [.ref 100, .int x1, .ref o, .int x3, .int x4] [] (cd_mm L w I J) = some r := by
  refine cd_q233_4 ?_
  simp only [cd_zwI, cd_zwL, cd_zI, cd_zJ, cd_zcp, true_and, if_true, cd_zk_100]
  exact h
set_option maxRecDepth 1000000 in
set_option maxHeartbeats 8000000 in
theorem cd_s233_12 {x1 : Int32} {x3 : Int32} {x4 : Int32} {s0 : Int32} {s1 : Int32} {o : Nat} (ho : o = 102 ∨ o = 103) {L : Nat} {w : Bool} {I : Nat → Nat → Int32} {J : Nat → Nat → Int64} {r : cd_Ret} (h : (if s1 = 0 then (cd_go 233 4 [.ref 100, .int x1, .ref o, .int (s0 + 0), .int (x4 + 1)] [] (cd_mm L w I J)) else if cd_in x4 8 = true then (cd_go 233 4 [.ref 100, .int x1, .ref o, .int (s0 + (I o x4.toNatClampNeg)), .int (x4 + 1)] [] (cd_mm L w I J)) else none) = some r) : cd_go 233 12 [.ref 100, .int x1, .ref o, .int x3, .int x4] [.int s1, .int s0] (cd_mm L w I J) = some r := by
  refine cd_q233_12 ?_
  simp only [cd_zwI, cd_zwL, cd_zI, cd_zJ, cd_zcp, true_and, if_true, cd_zk_o0_102_103 ho, cd_zn_o0_102_103 ho]
  exact h
set_option maxRecDepth 1000000 in
set_option maxHeartbeats 8000000 in
theorem cd_s234_0 {x1 : Int32} {x2 : Int32} {L : Nat} {w : Bool} {I : Nat → Nat → Int32} {J : Nat → Nat → Int64} {r : cd_Ret} (h : ((cd_ci (cd_c 139 [.int x2, .int x1] (cd_mm L w I J))).bind fun q => cd_go 234 3 [.ref 100, .int x1, .int x2] [.int q.1] q.2) = some r) : cd_go 234 0 [.ref 100, .int x1, .int x2] [] (cd_mm L w I J) = some r := cd_q234_0 h
set_option maxRecDepth 1000000 in
set_option maxHeartbeats 8000000 in
theorem cd_s234_3 {x1 : Int32} {x2 : Int32} {s0 : Int32} {L : Nat} {w : Bool} {I : Nat → Nat → Int32} {J : Nat → Nat → Int64} {r : cd_Ret} (h : (if s0 = 0 then (some (some (.int 0), (cd_mm L w I J))) else (cd_ci (cd_c 233 [.ref 100, .int (x2 &&& (((1 : Int32) <<< (x1 &&& 31)) ^^^ (-1))), .ref 103] (cd_mm L w I J))).bind fun q => cd_go 234 15 [.ref 100, .int x1, .int x2] [.int q.1] q.2) = some r) : cd_go 234 3 [.ref 100, .int x1, .int x2] [.int s0] (cd_mm L w I J) = some r := by
  refine cd_q234_3 ?_
  simp only [cd_zwI, cd_zwL, cd_zI, cd_zJ, cd_zcp, true_and, if_true, cd_zk_100, cd_zR_100_3]
  exact h
set_option maxRecDepth 1000000 in
set_option maxHeartbeats 8000000 in
theorem cd_s234_15 {x1 : Int32} {x2 : Int32} {s0 : Int32} {L : Nat} {w : Bool} {I : Nat → Nat → Int32} {J : Nat → Nat → Int64} {r : cd_Ret} (h : (if cd_in x1 8 = true then (if ((3 : Int32) * (I 103 x1.toNatClampNeg)) < s0 then (some (some (.int 0), (cd_mm L w I J))) else if cd_in (x2 &&& (((1 : Int32) <<< (x1 &&& 31)) ^^^ (-1))) 256 = true then (if (I 129 (x2 &&& (((1 : Int32) <<< (x1 &&& 31)) ^^^ (-1))).toNatClampNeg) = 0 then (some (some (.int 0), (cd_mm L w I J))) else some (some (.int 1), (cd_mm L w I J))) else none) else none) = some r) : cd_go 234 15 [.ref 100, .int x1, .int x2] [.int s0] (cd_mm L w I J) = some r := by
  refine cd_q234_15 ?_
  simp only [cd_zwI, cd_zwL, cd_zI, cd_zJ, cd_zcp, true_and, if_true, cd_zk_100, cd_zR_100_3, cd_zk_103, cd_zn_103, cd_zR_100_51, cd_zk_129, cd_zn_129]
  exact h
set_option maxRecDepth 1000000 in
set_option maxHeartbeats 8000000 in
theorem cd_s235_0 {L : Nat} {w : Bool} {I : Nat → Nat → Int32} {J : Nat → Nat → Int64} {r : cd_Ret} (h : (cd_go 235 4 [.ref 100, .int 0, .int 0, .null, .null] [] (cd_mm L w I J)) = some r) : cd_go 235 0 [.ref 100, .null, .null, .null, .null] [] (cd_mm L w I J) = some r := cd_q235_0 h
set_option maxRecDepth 1000000 in
set_option maxHeartbeats 8000000 in
theorem cd_s235_4 {x1 : Int32} {x2 : Int32} {w3 : Value} {w4 : Value} {L : Nat} {w : Bool} {I : Nat → Nat → Int32} {J : Nat → Nat → Int64} {r : cd_Ret} (h : (if x2 < ((1 : Int32) <<< ((I 100 0) &&& 31)) then (if x2 = 0 then (if cd_in x2 256 = true then (cd_go 235 23 [.ref 100, .int x1, .int x2, .int 1, .int 0] [] (cd_mm L w (cd_up I 129 x2.toNatClampNeg 1) J)) else none) else if cd_in x2 256 = true then (cd_go 235 23 [.ref 100, .int x1, .int x2, .int 0, .int 0] [] (cd_mm L w (cd_up I 129 x2.toNatClampNeg 0) J)) else none) else some (some (.int x1), (cd_mm L w I J))) = some r) : cd_go 235 4 [.ref 100, .int x1, .int x2, w3, w4] [] (cd_mm L w I J) = some r := by
  refine cd_q235_4 ?_
  simp only [cd_zwI, cd_zwL, cd_zI, cd_zJ, cd_zcp, true_and, if_true, cd_zk_100, cd_zR_100_51, cd_zk_129, cd_zn_129]
  exact h
set_option maxRecDepth 1000000 in
set_option maxHeartbeats 8000000 in
theorem cd_s235_23 {x1 : Int32} {x2 : Int32} {x3 : Int32} {x4 : Int32} {L : Nat} {w : Bool} {I : Nat → Nat → Int32} {J : Nat → Nat → Int64} {r : cd_Ret} (h : (if x4 < (I 100 0) then (if x3 = 0 then ((cd_ci (cd_c 234 [.ref 100, .int x4, .int x2] (cd_mm L w I J))).bind fun q => cd_go 235 33 [.ref 100, .int x1, .int x2, .int x3, .int x4] [.int q.1] q.2) else if cd_in x2 256 = true then (if x3 &&& 1 = x3 then (if x3 = 0 then (cd_go 235 4 [.ref 100, .int x1, .int (x2 + 1), .int x3, .int x4] [] (cd_mm L w (cd_up I 129 x2.toNatClampNeg x3) J)) else (cd_ci (cd_c 233 [.ref 100, .int x2, .ref 102] (cd_mm L w (cd_up I 129 x2.toNatClampNeg x3) J))).bind fun q => cd_go 235 48 [.ref 100, .int x1, .int x2, .int x3, .int x4] [.int q.1] q.2) else none) else none) else if cd_in x2 256 = true then (if x3 &&& 1 = x3 then (if x3 = 0 then (cd_go 235 4 [.ref 100, .int x1, .int (x2 + 1), .int x3, .int x4] [] (cd_mm L w (cd_up I 129 x2.toNatClampNeg x3) J)) else (cd_ci (cd_c 233 [.ref 100, .int x2, .ref 102] (cd_mm L w (cd_up I 129 x2.toNatClampNeg x3) J))).bind fun q => cd_go 235 48 [.ref 100, .int x1, .int x2, .int x3, .int x4] [.int q.1] q.2) else none) else none) = some r) : cd_go 235 23 [.ref 100, .int x1, .int x2, .int x3, .int x4] [] (cd_mm L w I J) = some r := by
  refine cd_q235_23 ?_
  simp only [cd_zwI, cd_zwL, cd_zI, cd_zJ, cd_zcp, true_and, if_true, cd_zk_100, cd_zR_100_51, cd_zk_129, cd_zn_129, cd_zR_100_2]
  exact h
set_option maxRecDepth 1000000 in
set_option maxHeartbeats 8000000 in
theorem cd_s235_33 {x1 : Int32} {x2 : Int32} {x3 : Int32} {x4 : Int32} {s0 : Int32} {L : Nat} {w : Bool} {I : Nat → Nat → Int32} {J : Nat → Nat → Int64} {r : cd_Ret} (h : (cd_go 235 23 [.ref 100, .int x1, .int x2, .int s0, .int (x4 + 1)] [] (cd_mm L w I J)) = some r) : cd_go 235 33 [.ref 100, .int x1, .int x2, .int x3, .int x4] [.int s0] (cd_mm L w I J) = some r := cd_q235_33 h
set_option maxRecDepth 1000000 in
set_option maxHeartbeats 8000000 in
theorem cd_s235_48 {x1 : Int32} {x2 : Int32} {x3 : Int32} {x4 : Int32} {s0 : Int32} {L : Nat} {w : Bool} {I : Nat → Nat → Int32} {J : Nat → Nat → Int64} {r : cd_Ret} (h : (if x1 < s0 then ((cd_ci (cd_c 233 [.ref 100, .int x2, .ref 102] (cd_mm L w I J))).bind fun q => cd_go 235 55 [.ref 100, .int x1, .int x2, .int x3, .int x4] [.int q.1] q.2) else cd_go 235 4 [.ref 100, .int x1, .int (x2 + 1), .int x3, .int x4] [] (cd_mm L w I J)) = some r) : cd_go 235 48 [.ref 100, .int x1, .int x2, .int x3, .int x4] [.int s0] (cd_mm L w I J) = some r := by
  refine cd_q235_48 ?_
  simp only [cd_zwI, cd_zwL, cd_zI, cd_zJ, cd_zcp, true_and, if_true, cd_zk_100, cd_zR_100_2]
  exact h
set_option maxRecDepth 1000000 in
set_option maxHeartbeats 8000000 in
theorem cd_s235_55 {x1 : Int32} {x2 : Int32} {x3 : Int32} {x4 : Int32} {s0 : Int32} {L : Nat} {w : Bool} {I : Nat → Nat → Int32} {J : Nat → Nat → Int64} {r : cd_Ret} (h : (cd_go 235 4 [.ref 100, .int s0, .int (x2 + 1), .int x3, .int x4] [] (cd_mm L w I J)) = some r) : cd_go 235 55 [.ref 100, .int x1, .int x2, .int x3, .int x4] [.int s0] (cd_mm L w I J) = some r := cd_q235_55 h
set_option maxRecDepth 1000000 in
set_option maxHeartbeats 8000000 in
theorem cd_s236_0 {x1 : Int32} {L : Nat} {w : Bool} {I : Nat → Nat → Int32} {J : Nat → Nat → Int64} {r : cd_Ret} (h : ((cd_ci (cd_c 235 [.ref 100] (cd_mm L w I J))).bind fun q => cd_go 236 2 [.ref 100, .int x1, .null, .null, .null, .null, .null, .null, .null] [.int q.1] q.2) = some r) : cd_go 236 0 [.ref 100, .int x1, .null, .null, .null, .null, .null, .null, .null] [] (cd_mm L w I J) = some r := by
  refine cd_q236_0 ?_
  simp only [cd_zwI, cd_zwL, cd_zI, cd_zJ, cd_zcp, true_and, if_true, cd_zk_100]
  exact h
set_option maxRecDepth 1000000 in
set_option maxHeartbeats 8000000 in
theorem cd_s236_2 {x1 : Int32} {s0 : Int32} {L : Nat} {w : Bool} {I : Nat → Nat → Int32} {J : Nat → Nat → Int64} {r : cd_Ret} (h : (if x1 = (-1) then (some (some (.int s0), (cd_mm L w I J))) else cd_go 236 15 [.ref 100, .int x1, .int s0, .int ((1 : Int32) <<< ((I 100 0) &&& 31)), .int 0, .null, .null, .null, .null] [] (cd_mm L w I J)) = some r) : cd_go 236 2 [.ref 100, .int x1, .null, .null, .null, .null, .null, .null, .null] [.int s0] (cd_mm L w I J) = some r := by
  refine cd_q236_2 ?_
  simp only [cd_zwI, cd_zwL, cd_zI, cd_zJ, cd_zcp, true_and, if_true, cd_zk_100]
  exact h
set_option maxRecDepth 1000000 in
set_option maxHeartbeats 8000000 in
theorem cd_s236_15 {x1 : Int32} {x2 : Int32} {x3 : Int32} {x4 : Int32} {L : Nat} {w : Bool} {I : Nat → Nat → Int32} {J : Nat → Nat → Int64} {r : cd_Ret} (h : (if x4 < x3 then (if cd_in x4 256 = true then (if (I 129 x4.toNatClampNeg) = 0 then (if cd_in x4 256 = true then (cd_go 236 15 [.ref 100, .int x1, .int x2, .int x3, .int (x4 + 1), .null, .null, .null, .null] [] (cd_mm L w (cd_up I 130 x4.toNatClampNeg 0) J)) else none) else (cd_ci (cd_c 233 [.ref 100, .int x4, .ref 102] (cd_mm L w I J))).bind fun q => cd_go 236 31 [.ref 100, .int x1, .int x2, .int x3, .int x4, .null, .null, .null, .null] [.int q.1, .int x4, .ref 130] q.2) else none) else cd_go 236 43 [.ref 100, .int x1, .int x2, .int x3, .int (-1), .int 0, .null, .null, .null] [] (cd_mm L w I J)) = some r) : cd_go 236 15 [.ref 100, .int x1, .int x2, .int x3, .int x4, .null, .null, .null, .null] [] (cd_mm L w I J) = some r := by
  refine cd_q236_15 ?_
  simp only [cd_zwI, cd_zwL, cd_zI, cd_zJ, cd_zcp, true_and, if_true, cd_zk_100, cd_zR_100_52, cd_zR_100_51, cd_zk_129, cd_zn_129, cd_zk_130, cd_zn_130, cd_zR_100_2]
  exact h
set_option maxRecDepth 1000000 in
set_option maxHeartbeats 8000000 in
theorem cd_s236_31 {x1 : Int32} {x2 : Int32} {x3 : Int32} {x4 : Int32} {s1 : Int32} {s2 : Int32} {L : Nat} {w : Bool} {I : Nat → Nat → Int32} {J : Nat → Nat → Int64} {r : cd_Ret} (h : (if s2 = x2 then (if cd_in s1 256 = true then (cd_go 236 15 [.ref 100, .int x1, .int x2, .int x3, .int (x4 + 1), .null, .null, .null, .null] [] (cd_mm L w (cd_up I 130 s1.toNatClampNeg 1) J)) else none) else if cd_in s1 256 = true then (cd_go 236 15 [.ref 100, .int x1, .int x2, .int x3, .int (x4 + 1), .null, .null, .null, .null] [] (cd_mm L w (cd_up I 130 s1.toNatClampNeg 0) J)) else none) = some r) : cd_go 236 31 [.ref 100, .int x1, .int x2, .int x3, .int x4, .null, .null, .null, .null] [.int s2, .int s1, .ref 130] (cd_mm L w I J) = some r := by
  refine cd_q236_31 ?_
  simp only [cd_zwI, cd_zwL, cd_zI, cd_zJ, cd_zcp, true_and, if_true, cd_zk_130, cd_zn_130]
  exact h
set_option maxRecDepth 1000000 in
set_option maxHeartbeats 8000000 in
theorem cd_s236_43 {x1 : Int32} {x2 : Int32} {x3 : Int32} {x4 : Int32} {x5 : Int32} {w6 : Value} {w7 : Value} {w8 : Value} {L : Nat} {w : Bool} {I : Nat → Nat → Int32} {J : Nat → Nat → Int64} {r : cd_Ret} (h : (if x1 < x5 then (some (some (.int (-1)), (cd_mm L w I J))) else if cd_in 0 256 = true then (if (I 130 (0 : Int32).toNatClampNeg) = 0 then (cd_go 236 58 [.ref 100, .int x1, .int x2, .int x3, .int (-1), .int x5, .int ((I 100 0) - 1), w7, w8] [] (cd_mm L w I J)) else some (some (.int (-1)), (cd_mm L w I J))) else none) = some r) : cd_go 236 43 [.ref 100, .int x1, .int x2, .int x3, .int x4, .int x5, w6, w7, w8] [] (cd_mm L w I J) = some r := by
  refine cd_q236_43 ?_
  simp only [cd_zwI, cd_zwL, cd_zI, cd_zJ, cd_zcp, true_and, if_true, cd_zk_100, cd_zR_100_52, cd_zk_130, cd_zn_130]
  exact h
set_option maxRecDepth 1000000 in
set_option maxHeartbeats 8000000 in
theorem cd_s236_58 {x1 : Int32} {x2 : Int32} {x3 : Int32} {x4 : Int32} {x5 : Int32} {x6 : Int32} {w7 : Value} {w8 : Value} {L : Nat} {w : Bool} {I : Nat → Nat → Int32} {J : Nat → Nat → Int64} {r : cd_Ret} (h : (if x6 < 0 then (cd_go 236 85 [.ref 100, .int x1, .int x2, .int x3, .int x4, .int x5, .int 0, w7, w8] [] (cd_mm L w I J)) else cd_go 236 62 [.ref 100, .int x1, .int x2, .int x3, .int x4, .int x5, .int x6, .int 0, w8] [] (cd_mm L w I J)) = some r) : cd_go 236 58 [.ref 100, .int x1, .int x2, .int x3, .int x4, .int x5, .int x6, w7, w8] [] (cd_mm L w I J) = some r := cd_q236_58 h
set_option maxRecDepth 1000000 in
set_option maxHeartbeats 8000000 in
theorem cd_s236_62 {x1 : Int32} {x2 : Int32} {x3 : Int32} {x4 : Int32} {x5 : Int32} {x6 : Int32} {x7 : Int32} {w8 : Value} {L : Nat} {w : Bool} {I : Nat → Nat → Int32} {J : Nat → Nat → Int64} {r : cd_Ret} (h : (if x7 < x3 then (if cd_in x7 256 = true then (if (I 130 x7.toNatClampNeg) = 0 then (cd_go 236 62 [.ref 100, .int x1, .int x2, .int x3, .int x4, .int x5, .int x6, .int (x7 + 1), w8] [] (cd_mm L w I J)) else (cd_ci (cd_c 234 [.ref 100, .int x6, .int x7] (cd_mm L w I J))).bind fun q => cd_go 236 74 [.ref 100, .int x1, .int x2, .int x3, .int x4, .int x5, .int x6, .int x7, w8] [.int q.1] q.2) else none) else cd_go 236 58 [.ref 100, .int x1, .int x2, .int x3, .int x4, .int x5, .int (x6 + (-1)), .int x7, w8] [] (cd_mm L w I J)) = some r) : cd_go 236 62 [.ref 100, .int x1, .int x2, .int x3, .int x4, .int x5, .int x6, .int x7, w8] [] (cd_mm L w I J) = some r := by
  refine cd_q236_62 ?_
  simp only [cd_zwI, cd_zwL, cd_zI, cd_zJ, cd_zcp, true_and, if_true, cd_zk_100, cd_zR_100_52, cd_zk_130, cd_zn_130]
  exact h
set_option maxRecDepth 1000000 in
set_option maxHeartbeats 8000000 in
theorem cd_s236_74 {x1 : Int32} {x2 : Int32} {x3 : Int32} {x4 : Int32} {x5 : Int32} {x6 : Int32} {x7 : Int32} {w8 : Value} {s0 : Int32} {L : Nat} {w : Bool} {I : Nat → Nat → Int32} {J : Nat → Nat → Int64} {r : cd_Ret} (h : (if s0 = 0 then (cd_go 236 62 [.ref 100, .int x1, .int x2, .int x3, .int x4, .int x5, .int x6, .int (x7 + 1), w8] [] (cd_mm L w I J)) else cd_go 236 62 [.ref 100, .int x1, .int x2, .int x3, .int x6, .int x5, .int x6, .int (x7 + 1), w8] [] (cd_mm L w I J)) = some r) : cd_go 236 74 [.ref 100, .int x1, .int x2, .int x3, .int x4, .int x5, .int x6, .int x7, w8] [.int s0] (cd_mm L w I J) = some r := cd_q236_74 h
set_option maxRecDepth 1000000 in
set_option maxHeartbeats 8000000 in
theorem cd_s236_85 {x1 : Int32} {x2 : Int32} {x3 : Int32} {x4 : Int32} {x5 : Int32} {x6 : Int32} {w7 : Value} {w8 : Value} {L : Nat} {w : Bool} {I : Nat → Nat → Int32} {J : Nat → Nat → Int64} {r : cd_Ret} (h : (if x6 < x3 then ((cd_ci (cd_c 139 [.int x6, .int x4] (cd_mm L w I J))).bind fun q => cd_go 236 97 [.ref 100, .int x1, .int x2, .int x3, .int x4, .int x5, .int x6, .int (x6 ||| ((1 : Int32) <<< (x4 &&& 31))), w8] [.int q.1] q.2) else cd_go 236 121 [.ref 100, .int x1, .int x2, .int x3, .int x4, .int x5, .int 0, w7, w8] [] (cd_mm L w I J)) = some r) : cd_go 236 85 [.ref 100, .int x1, .int x2, .int x3, .int x4, .int x5, .int x6, w7, w8] [] (cd_mm L w I J) = some r := cd_q236_85 h
set_option maxRecDepth 1000000 in
set_option maxHeartbeats 8000000 in
theorem cd_s236_97 {x1 : Int32} {x2 : Int32} {x3 : Int32} {x4 : Int32} {x5 : Int32} {x6 : Int32} {x7 : Int32} {w8 : Value} {s0 : Int32} {L : Nat} {w : Bool} {I : Nat → Nat → Int32} {J : Nat → Nat → Int64} {r : cd_Ret} (h : (if s0 = 0 then (if cd_in x7 256 = true then (if (I 130 x7.toNatClampNeg) = 0 then (if cd_in x6 256 = true then (cd_go 236 85 [.ref 100, .int x1, .int x2, .int x3, .int x4, .int x5, .int (x6 + 1), .int x7, .int 0] [] (cd_mm L w (cd_up I 131 x6.toNatClampNeg 0) J)) else none) else (cd_ci (cd_c 234 [.ref 100, .int x4, .int x7] (cd_mm L w I J))).bind fun q => cd_go 236 107 [.ref 100, .int x1, .int x2, .int x3, .int x4, .int x5, .int x6, .int x7, w8] [.int q.1] q.2) else none) else if cd_in x6 256 = true then (cd_go 236 85 [.ref 100, .int x1, .int x2, .int x3, .int x4, .int x5, .int (x6 + 1), .int x7, .int 0] [] (cd_mm L w (cd_up I 131 x6.toNatClampNeg 0) J)) else none) = some r) : cd_go 236 97 [.ref 100, .int x1, .int x2, .int x3, .int x4, .int x5, .int x6, .int x7, w8] [.int s0] (cd_mm L w I J) = some r := by
  refine cd_q236_97 ?_
  simp only [cd_zwI, cd_zwL, cd_zI, cd_zJ, cd_zcp, true_and, if_true, cd_zk_100, cd_zR_100_52, cd_zk_130, cd_zn_130, cd_zR_100_53, cd_zk_131, cd_zn_131]
  exact h
set_option maxRecDepth 1000000 in
set_option maxHeartbeats 8000000 in
theorem cd_s236_107 {x1 : Int32} {x2 : Int32} {x3 : Int32} {x4 : Int32} {x5 : Int32} {x6 : Int32} {x7 : Int32} {w8 : Value} {s0 : Int32} {L : Nat} {w : Bool} {I : Nat → Nat → Int32} {J : Nat → Nat → Int64} {r : cd_Ret} (h : (if s0 = 0 then (if cd_in x6 256 = true then (cd_go 236 85 [.ref 100, .int x1, .int x2, .int x3, .int x4, .int x5, .int (x6 + 1), .int x7, .int 0] [] (cd_mm L w (cd_up I 131 x6.toNatClampNeg 0) J)) else none) else if cd_in x6 256 = true then (cd_go 236 85 [.ref 100, .int x1, .int x2, .int x3, .int x4, .int x5, .int (x6 + 1), .int x7, .int 1] [] (cd_mm L w (cd_up I 131 x6.toNatClampNeg 1) J)) else none) = some r) : cd_go 236 107 [.ref 100, .int x1, .int x2, .int x3, .int x4, .int x5, .int x6, .int x7, w8] [.int s0] (cd_mm L w I J) = some r := by
  refine cd_q236_107 ?_
  simp only [cd_zwI, cd_zwL, cd_zI, cd_zJ, cd_zcp, true_and, if_true, cd_zk_100, cd_zR_100_53, cd_zk_131, cd_zn_131]
  exact h
set_option maxRecDepth 1000000 in
set_option maxHeartbeats 8000000 in
theorem cd_s236_121 {x1 : Int32} {x2 : Int32} {x3 : Int32} {x4 : Int32} {x5 : Int32} {x6 : Int32} {w7 : Value} {w8 : Value} {L : Nat} {w : Bool} {I : Nat → Nat → Int32} {J : Nat → Nat → Int64} {r : cd_Ret} (h : (if x6 < x3 then (if cd_in x6 256 = true then (if cd_in x6 256 = true then (if (I 131 x6.toNatClampNeg) &&& 1 = (I 131 x6.toNatClampNeg) then (cd_go 236 121 [.ref 100, .int x1, .int x2, .int x3, .int x4, .int x5, .int (x6 + 1), w7, w8] [] (cd_mm L w (cd_up I 130 x6.toNatClampNeg (I 131 x6.toNatClampNeg)) J)) else none) else none) else none) else if x5 = x1 then (some (some (.int x4), (cd_mm L w I J))) else cd_go 236 43 [.ref 100, .int x1, .int x2, .int x3, .int x4, .int (x5 + 1), .int x6, w7, w8] [] (cd_mm L w I J)) = some r) : cd_go 236 121 [.ref 100, .int x1, .int x2, .int x3, .int x4, .int x5, .int x6, w7, w8] [] (cd_mm L w I J) = some r := by
  refine cd_q236_121 ?_
  simp only [cd_zwI, cd_zwL, cd_zI, cd_zJ, cd_zcp, true_and, if_true, cd_zk_100, cd_zR_100_52, cd_zR_100_53, cd_zk_131, cd_zn_131, cd_zk_130, cd_zn_130]
  exact h
set_option maxRecDepth 1000000 in
set_option maxHeartbeats 8000000 in
theorem cd_s237_0 {L : Nat} {w : Bool} {I : Nat → Nat → Int32} {J : Nat → Nat → Int64} {r : cd_Ret} (h : ((cd_cl (cd_c 155 [.int 104, .int 105, .int 103, .int 104] (cd_mm L w I J))).bind fun q => cd_go 237 7 [.ref 100, .null] [.long q.1, .long (J 100 21)] q.2) = some r) : cd_go 237 0 [.ref 100, .null] [] (cd_mm L w I J) = some r := by
  refine cd_q237_0 ?_
  simp only [cd_zwI, cd_zwL, cd_zI, cd_zJ, cd_zcp, true_and, if_true, cd_zk_100]
  exact h
set_option maxRecDepth 1000000 in
set_option maxHeartbeats 8000000 in
theorem cd_s237_7 {t0 : Int64} {t1 : Int64} {L : Nat} {w : Bool} {I : Nat → Nat → Int32} {J : Nat → Nat → Int64} {r : cd_Ret} (h : (if (lg_cmp t0 t1) = 0 then (some (some (.int 1), (cd_mm L w I J))) else (cd_cl (cd_c 155 [.int 100, .int 97, .int 114, .int 107] (cd_mm L w I J))).bind fun q => cd_go 237 18 [.ref 100, .null] [.long q.1, .long (J 100 21)] q.2) = some r) : cd_go 237 7 [.ref 100, .null] [.long t1, .long t0] (cd_mm L w I J) = some r := by
  refine cd_q237_7 ?_
  simp only [cd_zwI, cd_zwL, cd_zI, cd_zJ, cd_zcp, true_and, if_true, cd_zk_100]
  exact h
set_option maxRecDepth 1000000 in
set_option maxHeartbeats 8000000 in
theorem cd_s237_18 {t0 : Int64} {t1 : Int64} {L : Nat} {w : Bool} {I : Nat → Nat → Int32} {J : Nat → Nat → Int64} {r : cd_Ret} (h : (if (lg_cmp t0 t1) = 0 then (some (some (.int 2), (cd_mm L w I J))) else (cd_cl (cd_c 155 [.int 100, .int 111, .int 111, .int 114] (cd_mm L w I J))).bind fun q => cd_go 237 29 [.ref 100, .null] [.long q.1, .long (J 100 21)] q.2) = some r) : cd_go 237 18 [.ref 100, .null] [.long t1, .long t0] (cd_mm L w I J) = some r := by
  refine cd_q237_18 ?_
  simp only [cd_zwI, cd_zwL, cd_zI, cd_zJ, cd_zcp, true_and, if_true, cd_zk_100]
  exact h
set_option maxRecDepth 1000000 in
set_option maxHeartbeats 8000000 in
theorem cd_s237_29 {t0 : Int64} {t1 : Int64} {L : Nat} {w : Bool} {I : Nat → Nat → Int32} {J : Nat → Nat → Int64} {r : cd_Ret} (h : (if (lg_cmp t0 t1) = 0 then (some (some (.int 3), (cd_mm L w I J))) else (cd_cl (cd_c 155 [.int 115, .int 116, .int 97, .int 110] (cd_mm L w I J))).bind fun q => cd_go 237 46 [.ref 100, .int (-1)] [.long q.1, .long (J 100 21)] q.2) = some r) : cd_go 237 29 [.ref 100, .null] [.long t1, .long t0] (cd_mm L w I J) = some r := by
  refine cd_q237_29 ?_
  simp only [cd_zwI, cd_zwL, cd_zI, cd_zJ, cd_zcp, true_and, if_true, cd_zk_100]
  exact h
set_option maxRecDepth 1000000 in
set_option maxHeartbeats 8000000 in
theorem cd_s237_46 {x1 : Int32} {t0 : Int64} {t1 : Int64} {L : Nat} {w : Bool} {I : Nat → Nat → Int32} {J : Nat → Nat → Int64} {r : cd_Ret} (h : ((cd_cl (cd_c 156 [.long t1, .int 100] (cd_mm L w I J))).bind fun q => cd_go 237 48 [.ref 100, .int x1] [.long q.1, .long t0] q.2) = some r) : cd_go 237 46 [.ref 100, .int x1] [.long t1, .long t0] (cd_mm L w I J) = some r := cd_q237_46 h
set_option maxRecDepth 1000000 in
set_option maxHeartbeats 8000000 in
theorem cd_s237_48 {x1 : Int32} {t0 : Int64} {t1 : Int64} {L : Nat} {w : Bool} {I : Nat → Nat → Int32} {J : Nat → Nat → Int64} {r : cd_Ret} (h : ((cd_cl (cd_c 156 [.long t1, .int 115] (cd_mm L w I J))).bind fun q => cd_go 237 50 [.ref 100, .int x1] [.long q.1, .long t0] q.2) = some r) : cd_go 237 48 [.ref 100, .int x1] [.long t1, .long t0] (cd_mm L w I J) = some r := cd_q237_48 h
set_option maxRecDepth 1000000 in
set_option maxHeartbeats 8000000 in
theorem cd_s237_50 {x1 : Int32} {t0 : Int64} {t1 : Int64} {L : Nat} {w : Bool} {I : Nat → Nat → Int32} {J : Nat → Nat → Int64} {r : cd_Ret} (h : (if (lg_cmp t0 t1) = 0 then (some (some (.int 4), (cd_mm L w I J))) else some (some (.int (-1)), (cd_mm L w I J))) = some r) : cd_go 237 50 [.ref 100, .int x1] [.long t1, .long t0] (cd_mm L w I J) = some r := cd_q237_50 h
set_option maxRecDepth 1000000 in
set_option maxHeartbeats 8000000 in
theorem cd_s238_0 {L : Nat} {w : Bool} {I : Nat → Nat → Int32} {J : Nat → Nat → Int64} {r : cd_Ret} (h : ((cd_cv (cd_c 154 [.ref 100] (cd_mm L w I J))).bind fun m => cd_go 238 7 [.ref 100, .int ((5 : Int32) * (I 100 54)), .null, .null, .null] [] m) = some r) : cd_go 238 0 [.ref 100, .null, .null, .null, .null] [] (cd_mm L w I J) = some r := by
  refine cd_q238_0 ?_
  simp only [cd_zwI, cd_zwL, cd_zI, cd_zJ, cd_zcp, true_and, if_true, cd_zk_100]
  exact h
set_option maxRecDepth 1000000 in
set_option maxHeartbeats 8000000 in
theorem cd_s238_7 {x1 : Int32} {L : Nat} {w : Bool} {I : Nat → Nat → Int32} {J : Nat → Nat → Int64} {r : cd_Ret} (h : ((cd_cl (cd_c 155 [.int 114, .int 111, .int 111, .int 109] (cd_mm L w I J))).bind fun q => cd_go 238 14 [.ref 100, .int x1, .null, .null, .null] [.long q.1, .long (J 100 21)] q.2) = some r) : cd_go 238 7 [.ref 100, .int x1, .null, .null, .null] [] (cd_mm L w I J) = some r := by
  refine cd_q238_7 ?_
  simp only [cd_zwI, cd_zwL, cd_zI, cd_zJ, cd_zcp, true_and, if_true, cd_zk_100]
  exact h
set_option maxRecDepth 1000000 in
set_option maxHeartbeats 8000000 in
theorem cd_s238_14 {x1 : Int32} {t0 : Int64} {t1 : Int64} {L : Nat} {w : Bool} {I : Nat → Nat → Int32} {J : Nat → Nat → Int64} {r : cd_Ret} (h : (if (lg_cmp t0 t1) = 0 then ((cd_ci (cd_c 157 [.ref 100, .int 0, .int 64] (cd_mm L w (cd_up I 100 20 (I 100 22)) J))).bind fun q => cd_go 238 30 [.ref 100, .int x1, .null, .null, .null] [.int q.1] q.2) else (cd_ci (cd_c 153 [.ref 100, .int 1, .int (I 100 20)] (cd_mm L w I J))).bind fun q => cd_go 238 21 [.ref 100, .int x1, .null, .null, .null] [.int q.1] q.2) = some r) : cd_go 238 14 [.ref 100, .int x1, .null, .null, .null] [.long t1, .long t0] (cd_mm L w I J) = some r := by
  refine cd_q238_14 ?_
  simp only [cd_zwI, cd_zwL, cd_zI, cd_zJ, cd_zcp, true_and, if_true, cd_zk_100]
  exact h
set_option maxRecDepth 1000000 in
set_option maxHeartbeats 8000000 in
theorem cd_s238_21 {x1 : Int32} {s0 : Int32} {L : Nat} {w : Bool} {I : Nat → Nat → Int32} {J : Nat → Nat → Int64} {r : cd_Ret} (h : (some (some (.int s0), (cd_mm L w I J))) = some r) : cd_go 238 21 [.ref 100, .int x1, .null, .null, .null] [.int s0] (cd_mm L w I J) = some r := cd_q238_21 h
set_option maxRecDepth 1000000 in
set_option maxHeartbeats 8000000 in
theorem cd_s238_30 {x1 : Int32} {s0 : Int32} {L : Nat} {w : Bool} {I : Nat → Nat → Int32} {J : Nat → Nat → Int64} {r : cd_Ret} (h : (if cd_in x1 20 = true then (if cd_in (x1 + 1) 20 = true then (if cd_in (x1 + 2) 20 = true then (if cd_in (x1 + 3) 20 = true then (if cd_in (x1 + 4) 20 = true then (cd_go 238 67 [.ref 100, .int x1, .int s0, .int 0, .null] [] (cd_mm L w (cd_up (cd_up (cd_up (cd_up (cd_up I 132 x1.toNatClampNeg (I 100 23)) 132 (x1 + 1).toNatClampNeg 5) 132 (x1 + 2).toNatClampNeg 99) 132 (x1 + 3).toNatClampNeg 0) 132 (x1 + 4).toNatClampNeg 0) J)) else none) else none) else none) else none) else none) = some r) : cd_go 238 30 [.ref 100, .int x1, .null, .null, .null] [.int s0] (cd_mm L w I J) = some r := by
  refine cd_q238_30 ?_
  simp only [cd_zwI, cd_zwL, cd_zI, cd_zJ, cd_zcp, true_and, if_true, cd_zk_100, cd_zR_100_55, cd_zk_132, cd_zn_132]
  exact h
set_option maxRecDepth 1000000 in
set_option maxHeartbeats 8000000 in
theorem cd_s238_67 {x1 : Int32} {x2 : Int32} {x3 : Int32} {w4 : Value} {L : Nat} {w : Bool} {I : Nat → Nat → Int32} {J : Nat → Nat → Int64} {r : cd_Ret} (h : (if x2 = 0 then ((cd_ci (cd_c 152 [.ref 100] (cd_mm L w I J))).bind fun q => cd_go 238 71 [.ref 100, .int x1, .int x2, .int x3, w4] [.int q.1] q.2) else some (some (.int x2), (cd_mm L w I J))) = some r) : cd_go 238 67 [.ref 100, .int x1, .int x2, .int x3, w4] [] (cd_mm L w I J) = some r := by
  refine cd_q238_67 ?_
  simp only [cd_zwI, cd_zwL, cd_zI, cd_zJ, cd_zcp, true_and, if_true, cd_zk_100]
  exact h
set_option maxRecDepth 1000000 in
set_option maxHeartbeats 8000000 in
theorem cd_s238_71 {x1 : Int32} {x2 : Int32} {x3 : Int32} {w4 : Value} {s0 : Int32} {L : Nat} {w : Bool} {I : Nat → Nat → Int32} {J : Nat → Nat → Int64} {r : cd_Ret} (h : (if s0 < 0 then (some (some (.int x2), (cd_mm L w I J))) else (cd_cv (cd_c 154 [.ref 100] (cd_mm L w I J))).bind fun m => cd_go 238 74 [.ref 100, .int x1, .int x2, .int x3, w4] [] m) = some r) : cd_go 238 71 [.ref 100, .int x1, .int x2, .int x3, w4] [.int s0] (cd_mm L w I J) = some r := by
  refine cd_q238_71 ?_
  simp only [cd_zwI, cd_zwL, cd_zI, cd_zJ, cd_zcp, true_and, if_true, cd_zk_100]
  exact h
set_option maxRecDepth 1000000 in
set_option maxHeartbeats 8000000 in
theorem cd_s238_74 {x1 : Int32} {x2 : Int32} {x3 : Int32} {w4 : Value} {L : Nat} {w : Bool} {I : Nat → Nat → Int32} {J : Nat → Nat → Int64} {r : cd_Ret} (h : ((cd_ci (cd_c 237 [.ref 100] (cd_mm L w I J))).bind fun q => cd_go 238 76 [.ref 100, .int x1, .int x2, .int x3, w4] [.int q.1] q.2) = some r) : cd_go 238 74 [.ref 100, .int x1, .int x2, .int x3, w4] [] (cd_mm L w I J) = some r := by
  refine cd_q238_74 ?_
  simp only [cd_zwI, cd_zwL, cd_zI, cd_zJ, cd_zcp, true_and, if_true, cd_zk_100]
  exact h
set_option maxRecDepth 1000000 in
set_option maxHeartbeats 8000000 in
theorem cd_s238_76 {x1 : Int32} {x2 : Int32} {x3 : Int32} {w4 : Value} {s0 : Int32} {L : Nat} {w : Bool} {I : Nat → Nat → Int32} {J : Nat → Nat → Int64} {r : cd_Ret} (h : (if x3 < s0 then (if s0 = 1 then ((cd_ci (cd_c 157 [.ref 100, .int 1, .int 20] (cd_mm L w (cd_up I 100 20 (I 100 22)) J))).bind fun q => cd_go 238 99 [.ref 100, .int x1, .int x2, .int s0, .int s0] [.int q.1] q.2) else if s0 = 2 then ((cd_ci (cd_c 157 [.ref 100, .int 0, .int 99] (cd_mm L w (cd_up I 100 20 (I 100 22)) J))).bind fun q => cd_go 238 107 [.ref 100, .int x1, .int x2, .int s0, .int s0] [.int q.1] q.2) else if 2 < s0 then (if cd_in (x1 + s0) 20 = true then (cd_go 238 67 [.ref 100, .int x1, .int 0, .int s0, .int s0] [] (cd_mm L w (cd_up (cd_up I 100 20 (I 100 22)) 132 (x1 + s0).toNatClampNeg 1) J)) else none) else if cd_in (x1 + s0) 20 = true then (cd_go 238 67 [.ref 100, .int x1, .int 0, .int s0, .int s0] [] (cd_mm L w (cd_up (cd_up I 100 20 (I 100 22)) 132 (x1 + s0).toNatClampNeg ((cd_up I 100 20 (I 100 22)) 100 23)) J)) else none) else (cd_ci (cd_c 153 [.ref 100, .int 1, .int (I 100 20)] (cd_mm L w I J))).bind fun q => cd_go 238 85 [.ref 100, .int x1, .int x2, .int x3, .int s0] [.int q.1] q.2) = some r) : cd_go 238 76 [.ref 100, .int x1, .int x2, .int x3, w4] [.int s0] (cd_mm L w I J) = some r := by
  refine cd_q238_76 ?_
  simp only [cd_zwI, cd_zwL, cd_zI, cd_zJ, cd_zcp, true_and, if_true, cd_zk_100, cd_zR_100_55, cd_zk_132, cd_zn_132]
  exact h
set_option maxRecDepth 1000000 in
set_option maxHeartbeats 8000000 in
theorem cd_s238_85 {x1 : Int32} {x2 : Int32} {x3 : Int32} {x4 : Int32} {s0 : Int32} {L : Nat} {w : Bool} {I : Nat → Nat → Int32} {J : Nat → Nat → Int64} {r : cd_Ret} (h : (some (some (.int s0), (cd_mm L w I J))) = some r) : cd_go 238 85 [.ref 100, .int x1, .int x2, .int x3, .int x4] [.int s0] (cd_mm L w I J) = some r := cd_q238_85 h
set_option maxRecDepth 1000000 in
set_option maxHeartbeats 8000000 in
theorem cd_s238_99 {x1 : Int32} {x2 : Int32} {x3 : Int32} {x4 : Int32} {s0 : Int32} {L : Nat} {w : Bool} {I : Nat → Nat → Int32} {J : Nat → Nat → Int64} {r : cd_Ret} (h : (if 2 < x4 then (if cd_in (x1 + x4) 20 = true then (cd_go 238 67 [.ref 100, .int x1, .int s0, .int x3, .int x4] [] (cd_mm L w (cd_up I 132 (x1 + x4).toNatClampNeg 1) J)) else none) else if cd_in (x1 + x4) 20 = true then (cd_go 238 67 [.ref 100, .int x1, .int s0, .int x3, .int x4] [] (cd_mm L w (cd_up I 132 (x1 + x4).toNatClampNeg (I 100 23)) J)) else none) = some r) : cd_go 238 99 [.ref 100, .int x1, .int x2, .int x3, .int x4] [.int s0] (cd_mm L w I J) = some r := by
  refine cd_q238_99 ?_
  simp only [cd_zwI, cd_zwL, cd_zI, cd_zJ, cd_zcp, true_and, if_true, cd_zk_100, cd_zR_100_55, cd_zk_132, cd_zn_132]
  exact h
set_option maxRecDepth 1000000 in
set_option maxHeartbeats 8000000 in
theorem cd_s238_107 {x1 : Int32} {x2 : Int32} {x3 : Int32} {x4 : Int32} {s0 : Int32} {L : Nat} {w : Bool} {I : Nat → Nat → Int32} {J : Nat → Nat → Int64} {r : cd_Ret} (h : (if 2 < x4 then (if cd_in (x1 + x4) 20 = true then (cd_go 238 67 [.ref 100, .int x1, .int s0, .int x3, .int x4] [] (cd_mm L w (cd_up I 132 (x1 + x4).toNatClampNeg 1) J)) else none) else if cd_in (x1 + x4) 20 = true then (cd_go 238 67 [.ref 100, .int x1, .int s0, .int x3, .int x4] [] (cd_mm L w (cd_up I 132 (x1 + x4).toNatClampNeg (I 100 23)) J)) else none) = some r) : cd_go 238 107 [.ref 100, .int x1, .int x2, .int x3, .int x4] [.int s0] (cd_mm L w I J) = some r := by
  refine cd_q238_107 ?_
  simp only [cd_zwI, cd_zwL, cd_zI, cd_zJ, cd_zcp, true_and, if_true, cd_zk_100, cd_zR_100_55, cd_zk_132, cd_zn_132]
  exact h
set_option maxRecDepth 1000000 in
set_option maxHeartbeats 8000000 in
theorem cd_s239_0 {L : Nat} {w : Bool} {I : Nat → Nat → Int32} {J : Nat → Nat → Int64} {r : cd_Ret} (h : (if 60 < (I 100 18) then (some (some (.int (-1003)), (cd_mm L w I J))) else if (I 100 54) = 4 then (some (some (.int (-1004)), (cd_mm L w I J))) else (cd_ci (cd_c 238 [.ref 100] (cd_mm L w (cd_up (cd_up I 100 19 (-1)) 100 20 0) J))).bind fun q => cd_go 239 20 [.ref 100, .null] [.int q.1] q.2) = some r) : cd_go 239 0 [.ref 100, .null] [] (cd_mm L w I J) = some r := by
  refine cd_q239_0 ?_
  simp only [cd_zwI, cd_zwL, cd_zI, cd_zJ, cd_zcp, true_and, if_true, cd_zk_100]
  exact h
set_option maxRecDepth 1000000 in
set_option maxHeartbeats 8000000 in
theorem cd_s239_20 {s0 : Int32} {L : Nat} {w : Bool} {I : Nat → Nat → Int32} {J : Nat → Nat → Int64} {r : cd_Ret} (h : (if 0 < s0 then (some (some (.int ((-10 : Int32) - s0)), (cd_mm L w (cd_up I 100 18 0) J))) else some (some (.int (((cd_up (cd_up I 100 18 0) 100 54 (((cd_up I 100 18 0) 100 54) + 1)) 100 54) - 1)), (cd_mm L w (cd_up (cd_up I 100 18 0) 100 54 (((cd_up I 100 18 0) 100 54) + 1)) J))) = some r) : cd_go 239 20 [.ref 100, .null] [.int s0] (cd_mm L w I J) = some r := by
  refine cd_q239_20 ?_
  simp only [cd_zwI, cd_zwL, cd_zI, cd_zJ, cd_zcp, true_and, if_true, cd_zk_100]
  exact h
set_option maxRecDepth 1000000 in
set_option maxHeartbeats 8000000 in
theorem cd_s240_0 {x1 : Int32} {L : Nat} {w : Bool} {I : Nat → Nat → Int32} {J : Nat → Nat → Int64} {r : cd_Ret} (h : ((cd_ci (cd_c 138 [.long x1.toInt64, .long 0, .long (((I 100 54) - 1).toInt64)] (cd_mm L w I J))).bind fun q => cd_go 240 9 [.ref 100, .int x1, .null, .null, .null] [.int q.1] q.2) = some r) : cd_go 240 0 [.ref 100, .int x1, .null, .null, .null] [] (cd_mm L w I J) = some r := by
  refine cd_q240_0 ?_
  simp only [cd_zwI, cd_zwL, cd_zI, cd_zJ, cd_zcp, true_and, if_true, cd_zk_100]
  exact h
set_option maxRecDepth 1000000 in
set_option maxHeartbeats 8000000 in
theorem cd_s240_9 {x1 : Int32} {s0 : Int32} {L : Nat} {w : Bool} {I : Nat → Nat → Int32} {J : Nat → Nat → Int64} {r : cd_Ret} (h : (if s0 = 0 then (some (some (.int (-1001)), (cd_mm L w I J))) else if cd_in (((5 : Int32) * x1) + 1) 20 = true then ((cd_ci (cd_c 205 [.ref 100, .int (I 132 (((5 : Int32) * x1) + 1).toNatClampNeg)] (cd_mm L w I J))).bind fun q => cd_go 240 24 [.ref 100, .int x1, .int ((5 : Int32) * x1), .null, .null] [.int q.1] q.2) else none) = some r) : cd_go 240 9 [.ref 100, .int x1, .null, .null, .null] [.int s0] (cd_mm L w I J) = some r := by
  refine cd_q240_9 ?_
  simp only [cd_zwI, cd_zwL, cd_zI, cd_zJ, cd_zcp, true_and, if_true, cd_zk_100, cd_zR_100_55, cd_zk_132, cd_zn_132]
  exact h
set_option maxRecDepth 1000000 in
set_option maxHeartbeats 8000000 in
theorem cd_s240_24 {x1 : Int32} {x2 : Int32} {s0 : Int32} {L : Nat} {w : Bool} {I : Nat → Nat → Int32} {J : Nat → Nat → Int64} {r : cd_Ret} (h : ((cd_ci (cd_c 211 [.ref 100, .int s0] (cd_mm L w I J))).bind fun q => cd_go 240 28 [.ref 100, .int x1, .int x2, .int s0, .null] [.int q.1] q.2) = some r) : cd_go 240 24 [.ref 100, .int x1, .int x2, .null, .null] [.int s0] (cd_mm L w I J) = some r := by
  refine cd_q240_24 ?_
  simp only [cd_zwI, cd_zwL, cd_zI, cd_zJ, cd_zcp, true_and, if_true, cd_zk_100]
  exact h
set_option maxRecDepth 1000000 in
set_option maxHeartbeats 8000000 in
theorem cd_s240_28 {x1 : Int32} {x2 : Int32} {x3 : Int32} {s0 : Int32} {L : Nat} {w : Bool} {I : Nat → Nat → Int32} {J : Nat → Nat → Int64} {r : cd_Ret} (h : (if cd_in x2 20 = true then (if s0 < (I 132 x2.toNatClampNeg) then (cd_go 240 46 [.ref 100, .int x1, .int x2, .int x3, .null] [.int 0] (cd_mm L w I J)) else (cd_ci (cd_c 209 [.ref 100, .int x3] (cd_mm L w I J))).bind fun q => cd_go 240 36 [.ref 100, .int x1, .int x2, .int x3, .null] [.int q.1] q.2) else none) = some r) : cd_go 240 28 [.ref 100, .int x1, .int x2, .int x3, .null] [.int s0] (cd_mm L w I J) = some r := by
  refine cd_q240_28 ?_
  simp only [cd_zwI, cd_zwL, cd_zI, cd_zJ, cd_zcp, true_and, if_true, cd_zk_100, cd_zR_100_55, cd_zk_132, cd_zn_132]
  exact h
set_option maxRecDepth 1000000 in
set_option maxHeartbeats 8000000 in
theorem cd_s240_36 {x1 : Int32} {x2 : Int32} {x3 : Int32} {s0 : Int32} {L : Nat} {w : Bool} {I : Nat → Nat → Int32} {J : Nat → Nat → Int64} {r : cd_Ret} (h : (if cd_in (x2 + 2) 20 = true then (if (I 132 (x2 + 2).toNatClampNeg) < s0 then (cd_go 240 46 [.ref 100, .int x1, .int x2, .int x3, .null] [.int 0] (cd_mm L w I J)) else cd_go 240 46 [.ref 100, .int x1, .int x2, .int x3, .null] [.int 1] (cd_mm L w I J)) else none) = some r) : cd_go 240 36 [.ref 100, .int x1, .int x2, .int x3, .null] [.int s0] (cd_mm L w I J) = some r := by
  refine cd_q240_36 ?_
  simp only [cd_zwI, cd_zwL, cd_zI, cd_zJ, cd_zcp, true_and, if_true, cd_zk_100, cd_zR_100_55, cd_zk_132, cd_zn_132]
  exact h
set_option maxRecDepth 1000000 in
set_option maxHeartbeats 8000000 in
theorem cd_s240_46 {x1 : Int32} {x2 : Int32} {x3 : Int32} {s0 : Int32} {L : Nat} {w : Bool} {I : Nat → Nat → Int32} {J : Nat → Nat → Int64} {r : cd_Ret} (h : (if s0 = 0 then (some (some (.int 0), (cd_mm L w I J))) else if cd_in (x2 + 3) 20 = true then (if (I 132 (x2 + 3).toNatClampNeg) = 0 then (if cd_in (x2 + 4) 20 = true then (if (I 132 (x2 + 4).toNatClampNeg) = 0 then (some (some (.int 1), (cd_mm L w I J))) else (cd_ci (cd_c 193 [.ref 100, .int (-1), .int 0] (cd_mm L w I J))).bind fun q => cd_go 240 77 [.ref 100, .int x1, .int x2, .int x3, .int 1] [.int q.1] q.2) else none) else (cd_ci (cd_c 208 [.ref 100, .int x3] (cd_mm L w I J))).bind fun q => cd_go 240 59 [.ref 100, .int x1, .int x2, .int x3, .int s0] [.int q.1] q.2) else none) = some r) : cd_go 240 46 [.ref 100, .int x1, .int x2, .int x3, .null] [.int s0] (cd_mm L w I J) = some r := by
  refine cd_q240_46 ?_
  simp only [cd_zwI, cd_zwL, cd_zI, cd_zJ, cd_zcp, true_and, if_true, cd_zk_100, cd_zR_100_55, cd_zk_132, cd_zn_132]
  exact h
set_option maxRecDepth 1000000 in
set_option maxHeartbeats 8000000 in
theorem cd_s240_59 {x1 : Int32} {x2 : Int32} {x3 : Int32} {x4 : Int32} {s0 : Int32} {L : Nat} {w : Bool} {I : Nat → Nat → Int32} {J : Nat → Nat → Int64} {r : cd_Ret} (h : (if 0 < s0 then (if cd_in (x2 + 4) 20 = true then (if (I 132 (x2 + 4).toNatClampNeg) = 0 then (some (some (.int 1), (cd_mm L w I J))) else (cd_ci (cd_c 193 [.ref 100, .int (-1), .int 0] (cd_mm L w I J))).bind fun q => cd_go 240 77 [.ref 100, .int x1, .int x2, .int x3, .int 1] [.int q.1] q.2) else none) else some (some (.int 0), (cd_mm L w I J))) = some r) : cd_go 240 59 [.ref 100, .int x1, .int x2, .int x3, .int x4] [.int s0] (cd_mm L w I J) = some r := by
  refine cd_q240_59 ?_
  simp only [cd_zwI, cd_zwL, cd_zI, cd_zJ, cd_zcp, true_and, if_true, cd_zk_100, cd_zR_100_55, cd_zk_132, cd_zn_132]
  exact h
set_option maxRecDepth 1000000 in
set_option maxHeartbeats 8000000 in
theorem cd_s240_77 {x1 : Int32} {x2 : Int32} {x3 : Int32} {x4 : Int32} {s0 : Int32} {L : Nat} {w : Bool} {I : Nat → Nat → Int32} {J : Nat → Nat → Int64} {r : cd_Ret} (h : (if s0 < 0 then (some (some (.int 1), (cd_mm L w I J))) else some (some (.int 0), (cd_mm L w I J))) = some r) : cd_go 240 77 [.ref 100, .int x1, .int x2, .int x3, .int x4] [.int s0] (cd_mm L w I J) = some r := cd_q240_77 h
set_option maxRecDepth 1000000 in
set_option maxHeartbeats 8000000 in
theorem cd_s241_0 {x1 : Int32} {L : Nat} {w : Bool} {I : Nat → Nat → Int32} {J : Nat → Nat → Int64} {r : cd_Ret} (h : (if x1 < 0 then (some (some (.int (-1002)), (cd_mm L w I J))) else some (some (.int (I 100 56)), (cd_mm L w (cd_up I 100 56 x1) J))) = some r) : cd_go 241 0 [.ref 100, .int x1, .null] [] (cd_mm L w I J) = some r := by
  refine cd_q241_0 ?_
  simp only [cd_zwI, cd_zwL, cd_zI, cd_zJ, cd_zcp, true_and, if_true, cd_zk_100]
  exact h
set_option maxRecDepth 1000000 in
set_option maxHeartbeats 8000000 in
theorem cd_s242_0 {x1 : Int32} {L : Nat} {w : Bool} {I : Nat → Nat → Int32} {J : Nat → Nat → Int64} {r : cd_Ret} (h : (if x1 = 0 then none else some (some (.int ((((cd_up I 100 56 ((((((I 100 56).toInt64) * 1103515245) + 12345) - ((((I 100 56).toInt64) * 1103515245) + 12345) / 2147483648 * 2147483648).toInt32)) 100 56) / 65536) - (((cd_up I 100 56 ((((((I 100 56).toInt64) * 1103515245) + 12345) - ((((I 100 56).toInt64) * 1103515245) + 12345) / 2147483648 * 2147483648).toInt32)) 100 56) / 65536) / x1 * x1)), (cd_mm L w (cd_up I 100 56 ((((((I 100 56).toInt64) * 1103515245) + 12345) - ((((I 100 56).toInt64) * 1103515245) + 12345) / 2147483648 * 2147483648).toInt32)) J))) = some r) : cd_go 242 0 [.ref 100, .int x1] [] (cd_mm L w I J) = some r := by
  refine cd_q242_0 ?_
  simp only [cd_zwI, cd_zwL, cd_zI, cd_zJ, cd_zcp, true_and, if_true, cd_zk_100]
  exact h
set_option maxRecDepth 1000000 in
set_option maxHeartbeats 8000000 in
theorem cd_s243_0 {x1 : Int32} {x2 : Int32} {L : Nat} {w : Bool} {I : Nat → Nat → Int32} {J : Nat → Nat → Int64} {r : cd_Ret} (h : ((cd_ci (cd_c 138 [.long x1.toInt64, .long 1, .long 20] (cd_mm L w I J))).bind fun q => cd_go 243 5 [.ref 100, .int x1, .int x2, .null, .null, .null] [.int q.1] q.2) = some r) : cd_go 243 0 [.ref 100, .int x1, .int x2, .null, .null, .null] [] (cd_mm L w I J) = some r := cd_q243_0 h
set_option maxRecDepth 1000000 in
set_option maxHeartbeats 8000000 in
theorem cd_s243_5 {x1 : Int32} {x2 : Int32} {s0 : Int32} {L : Nat} {w : Bool} {I : Nat → Nat → Int32} {J : Nat → Nat → Int64} {r : cd_Ret} (h : (if s0 = 0 then (some (some (.int (-1002)), (cd_mm L w I J))) else (cd_ci (cd_c 143 [.int x2] (cd_mm L w I J))).bind fun q => cd_go 243 8 [.ref 100, .int x1, .int x2, .null, .null, .null] [.int q.1] q.2) = some r) : cd_go 243 5 [.ref 100, .int x1, .int x2, .null, .null, .null] [.int s0] (cd_mm L w I J) = some r := cd_q243_5 h
set_option maxRecDepth 1000000 in
set_option maxHeartbeats 8000000 in
theorem cd_s243_8 {x1 : Int32} {x2 : Int32} {s0 : Int32} {L : Nat} {w : Bool} {I : Nat → Nat → Int32} {J : Nat → Nat → Int64} {r : cd_Ret} (h : (if s0 = 0 then (some (some (.int (-1002)), (cd_mm L w I J))) else if (I 100 0) = 0 then (some (some (.int (-1003)), (cd_mm L w I J))) else cd_go 243 20 [.ref 100, .int x1, .int x2, .int 0, .int 0, .null] [] (cd_mm L w I J)) = some r) : cd_go 243 8 [.ref 100, .int x1, .int x2, .null, .null, .null] [.int s0] (cd_mm L w I J) = some r := by
  refine cd_q243_8 ?_
  simp only [cd_zwI, cd_zwL, cd_zI, cd_zJ, cd_zcp, true_and, if_true, cd_zk_100]
  exact h
set_option maxRecDepth 1000000 in
set_option maxHeartbeats 8000000 in
theorem cd_s243_20 {x1 : Int32} {x2 : Int32} {x3 : Int32} {x4 : Int32} {w5 : Value} {L : Nat} {w : Bool} {I : Nat → Nat → Int32} {J : Nat → Nat → Int64} {r : cd_Ret} (h : (if x4 < x1 then ((cd_ci (cd_c 242 [.ref 100, .int (I 100 0)] (cd_mm L w I J))).bind fun q => cd_go 243 27 [.ref 100, .int x1, .int x2, .int x3, .int x4, w5] [.int q.1] q.2) else some (some (.int x3), (cd_mm L w I J))) = some r) : cd_go 243 20 [.ref 100, .int x1, .int x2, .int x3, .int x4, w5] [] (cd_mm L w I J) = some r := by
  refine cd_q243_20 ?_
  simp only [cd_zwI, cd_zwL, cd_zI, cd_zJ, cd_zcp, true_and, if_true, cd_zk_100]
  exact h
set_option maxRecDepth 1000000 in
set_option maxHeartbeats 8000000 in
theorem cd_s243_27 {x1 : Int32} {x2 : Int32} {x3 : Int32} {x4 : Int32} {w5 : Value} {s0 : Int32} {L : Nat} {w : Bool} {I : Nat → Nat → Int32} {J : Nat → Nat → Int64} {r : cd_Ret} (h : ((cd_ci (cd_c 242 [.ref 100, .int (x2 + 1)] (cd_mm L w I J))).bind fun q => cd_go 243 36 [.ref 100, .int x1, .int x2, .int x3, .int x4, .int s0] [.int q.1, .int s0, .ref 100, .int x3] q.2) = some r) : cd_go 243 27 [.ref 100, .int x1, .int x2, .int x3, .int x4, w5] [.int s0] (cd_mm L w I J) = some r := by
  refine cd_q243_27 ?_
  simp only [cd_zwI, cd_zwL, cd_zI, cd_zJ, cd_zcp, true_and, if_true, cd_zk_100]
  exact h
set_option maxRecDepth 1000000 in
set_option maxHeartbeats 8000000 in
theorem cd_s243_36 {x1 : Int32} {x2 : Int32} {x3 : Int32} {x4 : Int32} {x5 : Int32} {s0 : Int32} {s2 : Int32} {s3 : Int32} {L : Nat} {w : Bool} {I : Nat → Nat → Int32} {J : Nat → Nat → Int64} {r : cd_Ret} (h : ((cd_ci (cd_c 196 [.ref 100, .int s2, .int s3] (cd_mm L w I J))).bind fun q => cd_go 243 37 [.ref 100, .int x1, .int x2, .int x3, .int x4, .int x5] [.int q.1, .int s0] q.2) = some r) : cd_go 243 36 [.ref 100, .int x1, .int x2, .int x3, .int x4, .int x5] [.int s3, .int s2, .ref 100, .int s0] (cd_mm L w I J) = some r := by
  refine cd_q243_36 ?_
  simp only [cd_zwI, cd_zwL, cd_zI, cd_zJ, cd_zcp, true_and, if_true, cd_zk_100]
  exact h
set_option maxRecDepth 1000000 in
set_option maxHeartbeats 8000000 in
theorem cd_s243_37 {x1 : Int32} {x2 : Int32} {x3 : Int32} {x4 : Int32} {x5 : Int32} {s0 : Int32} {s1 : Int32} {L : Nat} {w : Bool} {I : Nat → Nat → Int32} {J : Nat → Nat → Int64} {r : cd_Ret} (h : (cd_go 243 20 [.ref 100, .int x1, .int x2, .int (s0 + s1), .int (x4 + 1), .int x5] [] (cd_mm L w I J)) = some r) : cd_go 243 37 [.ref 100, .int x1, .int x2, .int x3, .int x4, .int x5] [.int s1, .int s0] (cd_mm L w I J) = some r := cd_q243_37 h
set_option maxRecDepth 1000000 in
set_option maxHeartbeats 8000000 in
theorem cd_s244_0 {x1 : Int32} {L : Nat} {w : Bool} {I : Nat → Nat → Int32} {J : Nat → Nat → Int64} {r : cd_Ret} (h : ((cd_ci (cd_c 138 [.long x1.toInt64, .long 0, .long 1] (cd_mm L w I J))).bind fun q => cd_go 244 5 [.ref 100, .int x1] [.int q.1] q.2) = some r) : cd_go 244 0 [.ref 100, .int x1] [] (cd_mm L w I J) = some r := cd_q244_0 h
set_option maxRecDepth 1000000 in
set_option maxHeartbeats 8000000 in
theorem cd_s244_5 {x1 : Int32} {s0 : Int32} {L : Nat} {w : Bool} {I : Nat → Nat → Int32} {J : Nat → Nat → Int64} {r : cd_Ret} (h : (if s0 = 0 then (some (some (.int (-1001)), (cd_mm L w I J))) else (cd_cv (cd_c 216 [.ref 100, .int x1] (cd_mm L w I J))).bind fun m => cd_go 244 11 [.ref 100, .int x1] [] m) = some r) : cd_go 244 5 [.ref 100, .int x1] [.int s0] (cd_mm L w I J) = some r := by
  refine cd_q244_5 ?_
  simp only [cd_zwI, cd_zwL, cd_zI, cd_zJ, cd_zcp, true_and, if_true, cd_zk_100]
  exact h
set_option maxRecDepth 1000000 in
set_option maxHeartbeats 8000000 in
theorem cd_s244_11 {x1 : Int32} {L : Nat} {w : Bool} {I : Nat → Nat → Int32} {J : Nat → Nat → Int64} {r : cd_Ret} (h : (if cd_in x1 2 = true then (some (some (.int 1), (cd_mm L w (cd_up I 126 x1.toNatClampNeg 1) J))) else none) = some r) : cd_go 244 11 [.ref 100, .int x1] [] (cd_mm L w I J) = some r := by
  refine cd_q244_11 ?_
  simp only [cd_zwI, cd_zwL, cd_zI, cd_zJ, cd_zcp, true_and, if_true, cd_zk_100, cd_zR_100_47, cd_zk_126, cd_zn_126]
  exact h
set_option maxRecDepth 1000000 in
set_option maxHeartbeats 8000000 in
theorem cd_s245_0 {x1 : Int32} {L : Nat} {w : Bool} {I : Nat → Nat → Int32} {J : Nat → Nat → Int64} {r : cd_Ret} (h : ((cd_ci (cd_c 138 [.long x1.toInt64, .long 0, .long 1] (cd_mm L w I J))).bind fun q => cd_go 245 5 [.ref 100, .int x1] [.int q.1] q.2) = some r) : cd_go 245 0 [.ref 100, .int x1] [] (cd_mm L w I J) = some r := cd_q245_0 h
set_option maxRecDepth 1000000 in
set_option maxHeartbeats 8000000 in
theorem cd_s245_5 {x1 : Int32} {s0 : Int32} {L : Nat} {w : Bool} {I : Nat → Nat → Int32} {J : Nat → Nat → Int64} {r : cd_Ret} (h : (if s0 = 0 then (some (some (.int (-1001)), (cd_mm L w I J))) else if cd_in x1 2 = true then (if (I 126 x1.toNatClampNeg) = 0 then (some (some (.int (-1003)), (cd_mm L w I J))) else (cd_cv (cd_c 217 [.ref 100, .int x1] (cd_mm L w I J))).bind fun m => cd_go 245 18 [.ref 100, .int x1] [] m) else none) = some r) : cd_go 245 5 [.ref 100, .int x1] [.int s0] (cd_mm L w I J) = some r := by
  refine cd_q245_5 ?_
  simp only [cd_zwI, cd_zwL, cd_zI, cd_zJ, cd_zcp, true_and, if_true, cd_zk_100, cd_zR_100_47, cd_zk_126, cd_zn_126]
  exact h
set_option maxRecDepth 1000000 in
set_option maxHeartbeats 8000000 in
theorem cd_s245_18 {x1 : Int32} {L : Nat} {w : Bool} {I : Nat → Nat → Int32} {J : Nat → Nat → Int64} {r : cd_Ret} (h : (some (some (.int 1), (cd_mm L w I J))) = some r) : cd_go 245 18 [.ref 100, .int x1] [] (cd_mm L w I J) = some r := cd_q245_18 h
