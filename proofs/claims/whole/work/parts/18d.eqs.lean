set_option maxRecDepth 1000000 in
set_option maxHeartbeats 8000000 in
theorem cd_s126_0 {x2 : Int32} {p : Nat} (hp : p = 66 ∨ p = 83) {L : Nat} {w : Bool} {I : Nat → Nat → Int32} {J : Nat → Nat → Int64} {r : cd_Ret} (h : (cd_go 126 2 [.ref 32, .ref p, .int x2, .int 0, .null] [] (cd_mm L w I J)) = some r) : cd_go 126 0 [.ref 32, .ref p, .int x2, .null, .null] [] (cd_mm L w I J) = some r := cd_q126_0 h
set_option maxRecDepth 1000000 in
set_option maxHeartbeats 8000000 in
theorem cd_s126_2 {x2 : Int32} {x3 : Int32} {w4 : Value} {p : Nat} (hp : p = 66 ∨ p = 83) {L : Nat} {w : Bool} {I : Nat → Nat → Int32} {J : Nat → Nat → Int64} {r : cd_Ret} (h : (if x3 < (I p 0) then (if (x2 &&& (((1 : Int32) <<< (x3 &&& 31)) ^^^ (-1))) = x2 then (cd_go 126 2 [.ref 32, .ref p, .int x2, .int (x3 + 1), .int (x2 &&& (((1 : Int32) <<< (x3 &&& 31)) ^^^ (-1)))] [] (cd_mm L w I J)) else if cd_in (x2 &&& (((1 : Int32) <<< (x3 &&& 31)) ^^^ (-1))) 256 = true then (if (I 35 (x2 &&& (((1 : Int32) <<< (x3 &&& 31)) ^^^ (-1))).toNatClampNeg) = 0 then (cd_go 126 2 [.ref 32, .ref p, .int x2, .int (x3 + 1), .int (x2 &&& (((1 : Int32) <<< (x3 &&& 31)) ^^^ (-1)))] [] (cd_mm L w I J)) else if cd_in (x2 &&& (((1 : Int32) <<< (x3 &&& 31)) ^^^ (-1))) 256 = true then (if cd_in x3 8 = true then (if ((3 : Int32) * (I (p + 2) x3.toNatClampNeg)) < (I 33 (x2 &&& (((1 : Int32) <<< (x3 &&& 31)) ^^^ (-1))).toNatClampNeg) then (cd_go 126 2 [.ref 32, .ref p, .int x2, .int (x3 + 1), .int (x2 &&& (((1 : Int32) <<< (x3 &&& 31)) ^^^ (-1)))] [] (cd_mm L w I J)) else some (some (.int x3), (cd_mm L w I J))) else none) else none) else none) else some (some (.int (-1)), (cd_mm L w I J))) = some r) : cd_go 126 2 [.ref 32, .ref p, .int x2, .int x3, w4] [] (cd_mm L w I J) = some r := by
  refine cd_q126_2 ?_
  simp only [cd_zwI, cd_zwL, cd_zI, cd_zJ, cd_zcp, true_and, if_true, cd_zk_p0_66_83 hp, cd_zk_32, cd_zR_32_2, cd_zk_35, cd_zn_35, cd_zR_32_0, cd_zk_33, cd_zn_33, cd_zR_p0_66_83_5 hp, cd_zk_p2_66_83 hp, cd_zn_p2_66_83 hp]
  exact h
set_option maxRecDepth 1000000 in
set_option maxHeartbeats 8000000 in
theorem cd_s127_0 {x1 : Int32} {L : Nat} {w : Bool} {I : Nat → Nat → Int32} {J : Nat → Nat → Int64} {r : cd_Ret} (h : (cd_go 127 2 [.ref 32, .int x1, .int 0] [] (cd_mm L w I J)) = some r) : cd_go 127 0 [.ref 32, .int x1, .null] [] (cd_mm L w I J) = some r := cd_q127_0 h
set_option maxRecDepth 1000000 in
set_option maxHeartbeats 8000000 in
theorem cd_s127_2 {x1 : Int32} {x2 : Int32} {L : Nat} {w : Bool} {I : Nat → Nat → Int32} {J : Nat → Nat → Int64} {r : cd_Ret} (h : (if x2 < x1 then (if x2 < (I 32 5) then (if cd_in x2 8 = true then (if cd_in x2 8 = true then (if (I 36 x2.toNatClampNeg) = (I 37 x2.toNatClampNeg) then (cd_go 127 2 [.ref 32, .int x1, .int (x2 + 1)] [] (cd_mm L w I J)) else if cd_in x2 8 = true then (if cd_in x2 8 = true then (if (I 36 x2.toNatClampNeg) < (I 37 x2.toNatClampNeg) then (some (some (.int 1), (cd_mm L w I J))) else some (some (.int 0), (cd_mm L w I J))) else none) else none) else none) else none) else some (some (.int 0), (cd_mm L w I J))) else some (some (.int 0), (cd_mm L w I J))) = some r) : cd_go 127 2 [.ref 32, .int x1, .int x2] [] (cd_mm L w I J) = some r := by
  refine cd_q127_2 ?_
  simp only [cd_zwI, cd_zwL, cd_zI, cd_zJ, cd_zcp, true_and, if_true, cd_zk_32, cd_zR_32_3, cd_zk_36, cd_zn_36, cd_zR_32_4, cd_zk_37, cd_zn_37]
  exact h
set_option maxRecDepth 1000000 in
set_option maxHeartbeats 8000000 in
theorem cd_s128_0 {x2 : Int32} {p : Nat} (hp : p = 66 ∨ p = 83) {L : Nat} {w : Bool} {I : Nat → Nat → Int32} {J : Nat → Nat → Int64} {r : cd_Ret} (h : (cd_go 128 6 [.ref 32, .ref p, .int x2, .int 0, .int x2, .int 0, .null] [] (cd_mm L w I J)) = some r) : cd_go 128 0 [.ref 32, .ref p, .int x2, .null, .null, .null, .null] [] (cd_mm L w I J) = some r := cd_q128_0 h
set_option maxRecDepth 1000000 in
set_option maxHeartbeats 8000000 in
theorem cd_s128_6 {x2 : Int32} {x3 : Int32} {x4 : Int32} {x5 : Int32} {w6 : Value} {p : Nat} (hp : p = 66 ∨ p = 83) {L : Nat} {w : Bool} {I : Nat → Nat → Int32} {J : Nat → Nat → Int64} {r : cd_Ret} (h : (if x5 < 8 then (if x4 = 0 then (cd_go 128 36 [.ref 32, .ref p, .int x2, .int x3, .int x4, .int x5, w6] [] (cd_mm L w I J)) else (cd_ci (cd_c 126 [.ref 32, .ref p, .int x4] (cd_mm L w I J))).bind fun q => cd_go 128 15 [.ref 32, .ref p, .int x2, .int x3, .int x4, .int x5, w6] [.int q.1] q.2) else cd_go 128 36 [.ref 32, .ref p, .int x2, .int x3, .int x4, .int x5, w6] [] (cd_mm L w I J)) = some r) : cd_go 128 6 [.ref 32, .ref p, .int x2, .int x3, .int x4, .int x5, w6] [] (cd_mm L w I J) = some r := by
  refine cd_q128_6 ?_
  simp only [cd_zwI, cd_zwL, cd_zI, cd_zJ, cd_zcp, true_and, if_true, cd_zk_32]
  exact h
set_option maxRecDepth 1000000 in
set_option maxHeartbeats 8000000 in
theorem cd_s128_15 {x2 : Int32} {x3 : Int32} {x4 : Int32} {x5 : Int32} {w6 : Value} {s0 : Int32} {p : Nat} (hp : p = 66 ∨ p = 83) {L : Nat} {w : Bool} {I : Nat → Nat → Int32} {J : Nat → Nat → Int64} {r : cd_Ret} (h : (if s0 = (-1) then (some (none, (cd_mm L w I J))) else if cd_in x3 8 = true then (cd_go 128 6 [.ref 32, .ref p, .int x2, .int (x3 + 1), .int (x4 &&& (((1 : Int32) <<< (s0 &&& 31)) ^^^ (-1))), .int (x5 + 1), .int s0] [] (cd_mm L w (cd_up I 36 x3.toNatClampNeg s0) J)) else none) = some r) : cd_go 128 15 [.ref 32, .ref p, .int x2, .int x3, .int x4, .int x5, w6] [.int s0] (cd_mm L w I J) = some r := by
  refine cd_q128_15 ?_
  simp only [cd_zwI, cd_zwL, cd_zI, cd_zJ, cd_zcp, true_and, if_true, cd_zk_32, cd_zR_32_3, cd_zk_36, cd_zn_36]
  exact h
set_option maxRecDepth 1000000 in
set_option maxHeartbeats 8000000 in
theorem cd_s128_36 {x2 : Int32} {x3 : Int32} {x4 : Int32} {x5 : Int32} {w6 : Value} {p : Nat} (hp : p = 66 ∨ p = 83) {L : Nat} {w : Bool} {I : Nat → Nat → Int32} {J : Nat → Nat → Int64} {r : cd_Ret} (h : (if cd_in x2 256 = true then (if (I 32 6) < (I 34 x2.toNatClampNeg) then (if cd_in x2 256 = true then (some (none, (cd_mm L w (cd_cpI (cd_up (cd_up I 32 6 (I 34 x2.toNatClampNeg)) 32 5 x3) 36 (0 : Int32).toNatClampNeg 37 (0 : Int32).toNatClampNeg (8 : Int32).toNatClampNeg) J))) else none) else (cd_ci (cd_c 127 [.ref 32, .int x3] (cd_mm L w I J))).bind fun q => cd_go 128 46 [.ref 32, .ref p, .int x2, .int x3, .int x4, .int x5, w6] [.int q.1] q.2) else none) = some r) : cd_go 128 36 [.ref 32, .ref p, .int x2, .int x3, .int x4, .int x5, w6] [] (cd_mm L w I J) = some r := by
  refine cd_q128_36 ?_
  simp only [cd_zwI, cd_zwL, cd_zI, cd_zJ, cd_zcp, true_and, if_true, cd_zk_32, cd_zR_32_1, cd_zk_34, cd_zn_34, cd_zR_32_3, cd_zR_32_4, cd_zk_36, cd_zk_37, cd_zn_36, cd_zn_37]
  exact h
set_option maxRecDepth 1000000 in
set_option maxHeartbeats 8000000 in
theorem cd_s128_46 {x2 : Int32} {x3 : Int32} {x4 : Int32} {x5 : Int32} {w6 : Value} {s0 : Int32} {p : Nat} (hp : p = 66 ∨ p = 83) {L : Nat} {w : Bool} {I : Nat → Nat → Int32} {J : Nat → Nat → Int64} {r : cd_Ret} (h : (if s0 = 0 then (some (none, (cd_mm L w I J))) else if cd_in x2 256 = true then (some (none, (cd_mm L w (cd_cpI (cd_up (cd_up I 32 6 (I 34 x2.toNatClampNeg)) 32 5 x3) 36 (0 : Int32).toNatClampNeg 37 (0 : Int32).toNatClampNeg (8 : Int32).toNatClampNeg) J))) else none) = some r) : cd_go 128 46 [.ref 32, .ref p, .int x2, .int x3, .int x4, .int x5, w6] [.int s0] (cd_mm L w I J) = some r := by
  refine cd_q128_46 ?_
  simp only [cd_zwI, cd_zwL, cd_zI, cd_zJ, cd_zcp, true_and, if_true, cd_zk_32, cd_zR_32_1, cd_zk_34, cd_zn_34, cd_zR_32_3, cd_zR_32_4, cd_zk_36, cd_zk_37, cd_zn_36, cd_zn_37]
  exact h
set_option maxRecDepth 1000000 in
set_option maxHeartbeats 8000000 in
theorem cd_s129_0 {p : Nat} (hp : p = 66 ∨ p = 83) {L : Nat} {w : Bool} {I : Nat → Nat → Int32} {J : Nat → Nat → Int64} {r : cd_Ret} (h : (cd_go 129 8 [.ref 32, .ref p, .int 0] [] (cd_mm L w (cd_up (cd_up I 32 5 0) 32 6 0) J)) = some r) : cd_go 129 0 [.ref 32, .ref p, .null] [] (cd_mm L w I J) = some r := by
  refine cd_q129_0 ?_
  simp only [cd_zwI, cd_zwL, cd_zI, cd_zJ, cd_zcp, true_and, if_true, cd_zk_32]
  exact h
set_option maxRecDepth 1000000 in
set_option maxHeartbeats 8000000 in
theorem cd_s129_8 {x2 : Int32} {p : Nat} (hp : p = 66 ∨ p = 83) {L : Nat} {w : Bool} {I : Nat → Nat → Int32} {J : Nat → Nat → Int64} {r : cd_Ret} (h : (if x2 < ((1 : Int32) <<< ((I p 0) &&& 31)) then ((cd_cv (cd_c 125 [.ref 32, .ref p, .int x2] (cd_mm L w I J))).bind fun m => cd_go 129 18 [.ref 32, .ref p, .int x2] [] m) else some (none, (cd_mm L w I J))) = some r) : cd_go 129 8 [.ref 32, .ref p, .int x2] [] (cd_mm L w I J) = some r := by
  refine cd_q129_8 ?_
  simp only [cd_zwI, cd_zwL, cd_zI, cd_zJ, cd_zcp, true_and, if_true, cd_zk_p0_66_83 hp, cd_zk_32]
  exact h
set_option maxRecDepth 1000000 in
set_option maxHeartbeats 8000000 in
theorem cd_s129_18 {x2 : Int32} {p : Nat} (hp : p = 66 ∨ p = 83) {L : Nat} {w : Bool} {I : Nat → Nat → Int32} {J : Nat → Nat → Int64} {r : cd_Ret} (h : (if x2 = 0 then (if cd_in x2 256 = true then (if cd_in x2 256 = true then (if ((cd_up I 35 x2.toNatClampNeg 1) 35 x2.toNatClampNeg) = 0 then (cd_go 129 49 [.ref 32, .ref p, .int x2] [] (cd_mm L w (cd_up I 35 x2.toNatClampNeg 1) J)) else if cd_in x2 256 = true then (if ((cd_up I 35 x2.toNatClampNeg 1) 34 x2.toNatClampNeg) < ((cd_up I 35 x2.toNatClampNeg 1) 32 6) then (cd_go 129 49 [.ref 32, .ref p, .int x2] [] (cd_mm L w (cd_up I 35 x2.toNatClampNeg 1) J)) else (cd_cv (cd_c 128 [.ref 32, .ref p, .int x2] (cd_mm L w (cd_up I 35 x2.toNatClampNeg 1) J))).bind fun m => cd_go 129 49 [.ref 32, .ref p, .int x2] [] m) else none) else none) else none) else (cd_ci (cd_c 126 [.ref 32, .ref p, .int x2] (cd_mm L w I J))).bind fun q => cd_go 129 27 [.ref 32, .ref p, .int x2] [.int q.1, .int x2, .ref 35] q.2) = some r) : cd_go 129 18 [.ref 32, .ref p, .int x2] [] (cd_mm L w I J) = some r := by
  refine cd_q129_18 ?_
  simp only [cd_zwI, cd_zwL, cd_zI, cd_zJ, cd_zcp, true_and, if_true, cd_zk_32, cd_zR_32_2, cd_zk_35, cd_zn_35, cd_zR_32_1, cd_zk_34, cd_zn_34]
  exact h
set_option maxRecDepth 1000000 in
set_option maxHeartbeats 8000000 in
theorem cd_s129_27 {x2 : Int32} {s1 : Int32} {s2 : Int32} {p : Nat} (hp : p = 66 ∨ p = 83) {L : Nat} {w : Bool} {I : Nat → Nat → Int32} {J : Nat → Nat → Int64} {r : cd_Ret} (h : (if s2 = (-1) then (if cd_in s1 256 = true then (if cd_in x2 256 = true then (if ((cd_up I 35 s1.toNatClampNeg 0) 35 x2.toNatClampNeg) = 0 then (cd_go 129 49 [.ref 32, .ref p, .int x2] [] (cd_mm L w (cd_up I 35 s1.toNatClampNeg 0) J)) else if cd_in x2 256 = true then (if ((cd_up I 35 s1.toNatClampNeg 0) 34 x2.toNatClampNeg) < ((cd_up I 35 s1.toNatClampNeg 0) 32 6) then (cd_go 129 49 [.ref 32, .ref p, .int x2] [] (cd_mm L w (cd_up I 35 s1.toNatClampNeg 0) J)) else (cd_cv (cd_c 128 [.ref 32, .ref p, .int x2] (cd_mm L w (cd_up I 35 s1.toNatClampNeg 0) J))).bind fun m => cd_go 129 49 [.ref 32, .ref p, .int x2] [] m) else none) else none) else none) else if cd_in s1 256 = true then (if cd_in x2 256 = true then (if ((cd_up I 35 s1.toNatClampNeg 1) 35 x2.toNatClampNeg) = 0 then (cd_go 129 49 [.ref 32, .ref p, .int x2] [] (cd_mm L w (cd_up I 35 s1.toNatClampNeg 1) J)) else if cd_in x2 256 = true then (if ((cd_up I 35 s1.toNatClampNeg 1) 34 x2.toNatClampNeg) < ((cd_up I 35 s1.toNatClampNeg 1) 32 6) then (cd_go 129 49 [.ref 32, .ref p, .int x2] [] (cd_mm L w (cd_up I 35 s1.toNatClampNeg 1) J)) else (cd_cv (cd_c 128 [.ref 32, .ref p, .int x2] (cd_mm L w (cd_up I 35 s1.toNatClampNeg 1) J))).bind fun m => cd_go 129 49 [.ref 32, .ref p, .int x2] [] m) else none) else none) else none) = some r) : cd_go 129 27 [.ref 32, .ref p, .int x2] [.int s2, .int s1, .ref 35] (cd_mm L w I J) = some r := by
  refine cd_q129_27 ?_
  simp only [cd_zwI, cd_zwL, cd_zI, cd_zJ, cd_zcp, true_and, if_true, cd_zk_35, cd_zn_35, cd_zk_32, cd_zR_32_2, cd_zR_32_1, cd_zk_34, cd_zn_34]
  exact h
set_option maxRecDepth 1000000 in
set_option maxHeartbeats 8000000 in
theorem cd_s129_49 {x2 : Int32} {p : Nat} (hp : p = 66 ∨ p = 83) {L : Nat} {w : Bool} {I : Nat → Nat → Int32} {J : Nat → Nat → Int64} {r : cd_Ret} (h : (cd_go 129 8 [.ref 32, .ref p, .int (x2 + 1)] [] (cd_mm L w I J)) = some r) : cd_go 129 49 [.ref 32, .ref p, .int x2] [] (cd_mm L w I J) = some r := cd_q129_49 h
set_option maxRecDepth 1000000 in
set_option maxHeartbeats 8000000 in
theorem cd_s130_0 {x1 : Int32} {L : Nat} {w : Bool} {I : Nat → Nat → Int32} {J : Nat → Nat → Int64} {r : cd_Ret} (h : ((cd_cv (cd_c 129 [.ref 32, .ref (cd_ple w)] (cd_mm L w I J))).bind fun m => cd_go 130 5 [.ref 2, .int x1] [] m) = some r) : cd_go 130 0 [.ref 2, .int x1] [] (cd_mm L w I J) = some r := by
  refine cd_q130_0 ?_
  simp only [cd_zwI, cd_zwL, cd_zI, cd_zJ, cd_zcp, true_and, if_true, cd_zk_2, cd_zR_2_3, cd_zR_2_12, cd_zk_32]
  exact h
set_option maxRecDepth 1000000 in
set_option maxHeartbeats 8000000 in
theorem cd_s130_5 {x1 : Int32} {L : Nat} {w : Bool} {I : Nat → Nat → Int32} {J : Nat → Nat → Int64} {r : cd_Ret} (h : (if x1 = (-1) then (some (some (.int (I 32 6)), (cd_mm L w I J))) else if x1 < 0 then (some (some (.int (-1)), (cd_mm L w I J))) else if x1 < (I 32 5) then (if cd_in x1 8 = true then (some (some (.int (I 37 x1.toNatClampNeg)), (cd_mm L w I J))) else none) else some (some (.int (-1)), (cd_mm L w I J))) = some r) : cd_go 130 5 [.ref 2, .int x1] [] (cd_mm L w I J) = some r := by
  refine cd_q130_5 ?_
  simp only [cd_zwI, cd_zwL, cd_zI, cd_zJ, cd_zcp, true_and, if_true, cd_zk_2, cd_zR_2_3, cd_zk_32, cd_zR_32_4, cd_zk_37, cd_zn_37]
  exact h
set_option maxRecDepth 1000000 in
set_option maxHeartbeats 8000000 in
theorem cd_s131_17 {x1 : Int32} {a2 : Nat} {t0 : Int64} {L : Nat} {w : Bool} {I : Nat → Nat → Int32} {J : Nat → Nat → Int64} {r : cd_Ret} (h : ((cd_ci (cd_c 93 [.long t0] (cd_mm L w I J))).bind fun q => cd_go 131 20 [.ref 2, .int x1, .ref a2, .long t0, .null] [.int q.1] q.2) = some r) : cd_go 131 17 [.ref 2, .int x1, .ref a2, .null, .null] [.long t0] (cd_mm L w I J) = some r := cd_q131_17 h
set_option maxRecDepth 1000000 in
set_option maxHeartbeats 8000000 in
theorem cd_s131_37 {x1 : Int32} {a2 : Nat} {y3 : Int64} {t0 : Int64} {t1 : Int64} {L : Nat} {w : Bool} {I : Nat → Nat → Int32} {J : Nat → Nat → Int64} {r : cd_Ret} (h : ((cd_ci (cd_c 98 [.long t0, .long t1] (cd_mm L w I J))).bind fun q => cd_go 131 38 [.ref 2, .int x1, .ref a2, .long y3, .null] [.int q.1] q.2) = some r) : cd_go 131 37 [.ref 2, .int x1, .ref a2, .long y3, .null] [.long t1, .long t0] (cd_mm L w I J) = some r := cd_q131_37 h
set_option maxRecDepth 1000000 in
set_option maxHeartbeats 8000000 in
theorem cd_s131_46 {x1 : Int32} {a2 : Nat} {y3 : Int64} {s0 : Int32} {L : Nat} {w : Bool} {I : Nat → Nat → Int32} {J : Nat → Nat → Int64} {r : cd_Ret} (h : (if s0 = 0 then (some (some (.int 0), (cd_mm L w I J))) else some (some (.int 1), (cd_mm L w I J))) = some r) : cd_go 131 46 [.ref 2, .int x1, .ref a2, .long y3, .null] [.int s0] (cd_mm L w I J) = some r := cd_q131_46 h
set_option maxRecDepth 1000000 in
set_option maxHeartbeats 8000000 in
theorem cd_s132_0 {x1 : Int32} {L : Nat} {w : Bool} {I : Nat → Nat → Int32} {J : Nat → Nat → Int64} {r : cd_Ret} (h : (if x1 < 0 then (some (some (.int (-1002)), (cd_mm L w I J))) else some (some (.int (I 2 16)), (cd_mm L w (cd_up I 2 16 x1) J))) = some r) : cd_go 132 0 [.ref 2, .int x1, .null] [] (cd_mm L w I J) = some r := by
  refine cd_q132_0 ?_
  simp only [cd_zwI, cd_zwL, cd_zI, cd_zJ, cd_zcp, true_and, if_true, cd_zk_2]
  exact h
set_option maxRecDepth 1000000 in
set_option maxHeartbeats 8000000 in
theorem cd_s133_0 {x1 : Int32} {L : Nat} {w : Bool} {I : Nat → Nat → Int32} {J : Nat → Nat → Int64} {r : cd_Ret} (h : (if x1 < 1 then (some (some (.int 0), (cd_mm L w (cd_up I 2 16 ((((((I 2 16).toInt64) * 1103515245) + 12345) &&& 2147483647).toInt32)) J))) else if x1 = 0 then none else some (some (.int ((((cd_up I 2 16 ((((((I 2 16).toInt64) * 1103515245) + 12345) &&& 2147483647).toInt32)) 2 16) / 65536) - (((cd_up I 2 16 ((((((I 2 16).toInt64) * 1103515245) + 12345) &&& 2147483647).toInt32)) 2 16) / 65536) / x1 * x1)), (cd_mm L w (cd_up I 2 16 ((((((I 2 16).toInt64) * 1103515245) + 12345) &&& 2147483647).toInt32)) J))) = some r) : cd_go 133 0 [.ref 2, .int x1] [] (cd_mm L w I J) = some r := by
  refine cd_q133_0 ?_
  simp only [cd_zwI, cd_zwL, cd_zI, cd_zJ, cd_zcp, true_and, if_true, cd_zk_2]
  exact h
set_option maxRecDepth 1000000 in
set_option maxHeartbeats 8000000 in
theorem cd_s134_0 {x1 : Int32} {x2 : Int32} {L : Nat} {w : Bool} {I : Nat → Nat → Int32} {J : Nat → Nat → Int64} {r : cd_Ret} (h : (if x1 < 1 then (some (some (.int (-1002)), (cd_mm L w I J))) else if 20 < x1 then (some (some (.int (-1002)), (cd_mm L w I J))) else (cd_ci (cd_c 74 [.int x2] (cd_mm L w I J))).bind fun q => cd_go 134 8 [.ref 2, .int x1, .int x2, .null, .null, .null, .null] [.int q.1] q.2) = some r) : cd_go 134 0 [.ref 2, .int x1, .int x2, .null, .null, .null, .null] [] (cd_mm L w I J) = some r := cd_q134_0 h
set_option maxRecDepth 1000000 in
set_option maxHeartbeats 8000000 in
theorem cd_s134_8 {x1 : Int32} {x2 : Int32} {s0 : Int32} {L : Nat} {w : Bool} {I : Nat → Nat → Int32} {J : Nat → Nat → Int64} {r : cd_Ret} (h : (if s0 = 0 then (some (some (.int (-1002)), (cd_mm L w I J))) else if (I (cd_ple w) 0) = 0 then (some (some (.int (-1003)), (cd_mm L w I J))) else cd_go 134 21 [.ref 2, .int x1, .int x2, .int 0, .int 0, .null, .null] [] (cd_mm L w I J)) = some r) : cd_go 134 8 [.ref 2, .int x1, .int x2, .null, .null, .null, .null] [.int s0] (cd_mm L w I J) = some r := by
  refine cd_q134_8 ?_
  simp only [cd_zwI, cd_zwL, cd_zI, cd_zJ, cd_zcp, true_and, if_true, cd_zk_2, cd_zR_2_12, cd_zk_w0_]
  exact h
set_option maxRecDepth 1000000 in
set_option maxHeartbeats 8000000 in
theorem cd_s134_21 {x1 : Int32} {x2 : Int32} {x3 : Int32} {x4 : Int32} {w5 : Value} {w6 : Value} {L : Nat} {w : Bool} {I : Nat → Nat → Int32} {J : Nat → Nat → Int64} {r : cd_Ret} (h : (if x4 < x1 then ((cd_ci (cd_c 133 [.ref 2, .int (I (cd_ple w) 0)] (cd_mm L w I J))).bind fun q => cd_go 134 29 [.ref 2, .int x1, .int x2, .int x3, .int x4, w5, w6] [.int q.1] q.2) else some (some (.int x3), (cd_mm L w I J))) = some r) : cd_go 134 21 [.ref 2, .int x1, .int x2, .int x3, .int x4, w5, w6] [] (cd_mm L w I J) = some r := by
  refine cd_q134_21 ?_
  simp only [cd_zwI, cd_zwL, cd_zI, cd_zJ, cd_zcp, true_and, if_true, cd_zk_2, cd_zR_2_12, cd_zk_w0_]
  exact h
set_option maxRecDepth 1000000 in
set_option maxHeartbeats 8000000 in
theorem cd_s134_29 {x1 : Int32} {x2 : Int32} {x3 : Int32} {x4 : Int32} {w5 : Value} {w6 : Value} {s0 : Int32} {L : Nat} {w : Bool} {I : Nat → Nat → Int32} {J : Nat → Nat → Int64} {r : cd_Ret} (h : ((cd_ci (cd_c 133 [.ref 2, .int (x2 + 1)] (cd_mm L w I J))).bind fun q => cd_go 134 35 [.ref 2, .int x1, .int x2, .int x3, .int x4, .int s0, w6] [.int q.1] q.2) = some r) : cd_go 134 29 [.ref 2, .int x1, .int x2, .int x3, .int x4, w5, w6] [.int s0] (cd_mm L w I J) = some r := by
  refine cd_q134_29 ?_
  simp only [cd_zwI, cd_zwL, cd_zI, cd_zJ, cd_zcp, true_and, if_true, cd_zk_2]
  exact h
set_option maxRecDepth 1000000 in
set_option maxHeartbeats 8000000 in
theorem cd_s134_35 {x1 : Int32} {x2 : Int32} {x3 : Int32} {x4 : Int32} {x5 : Int32} {w6 : Value} {s0 : Int32} {L : Nat} {w : Bool} {I : Nat → Nat → Int32} {J : Nat → Nat → Int64} {r : cd_Ret} (h : ((cd_cv (cd_c 82 [.ref 5, .ref (cd_ple w), .ref 45, .int x5, .int s0, .ref 42] (cd_mm L w I J))).bind fun m => cd_go 134 47 [.ref 2, .int x1, .int x2, .int x3, .int x4, .int x5, .int s0] [] m) = some r) : cd_go 134 35 [.ref 2, .int x1, .int x2, .int x3, .int x4, .int x5, w6] [.int s0] (cd_mm L w I J) = some r := by
  refine cd_q134_35 ?_
  simp only [cd_zwI, cd_zwL, cd_zI, cd_zJ, cd_zcp, true_and, if_true, cd_zk_2, cd_zR_2_1, cd_zR_2_12, cd_zR_2_6, cd_zR_2_5, cd_zk_5]
  exact h
set_option maxRecDepth 1000000 in
set_option maxHeartbeats 8000000 in
theorem cd_s134_47 {x1 : Int32} {x2 : Int32} {x3 : Int32} {x4 : Int32} {x5 : Int32} {x6 : Int32} {L : Nat} {w : Bool} {I : Nat → Nat → Int32} {J : Nat → Nat → Int64} {r : cd_Ret} (h : (cd_go 134 21 [.ref 2, .int x1, .int x2, .int (x3 + (I 42 2)), .int (x4 + 1), .int x5, .int x6] [] (cd_mm L w I J)) = some r) : cd_go 134 47 [.ref 2, .int x1, .int x2, .int x3, .int x4, .int x5, .int x6] [] (cd_mm L w I J) = some r := by
  refine cd_q134_47 ?_
  simp only [cd_zwI, cd_zwL, cd_zI, cd_zJ, cd_zcp, true_and, if_true, cd_zk_2, cd_zR_2_5, cd_zk_42]
  exact h
set_option maxRecDepth 1000000 in
set_option maxHeartbeats 8000000 in
theorem cd_s135_14 {x1 : Int32} {L : Nat} {w : Bool} {I : Nat → Nat → Int32} {J : Nat → Nat → Int64} {r : cd_Ret} (h : (if cd_in x1 2 = true then (if cd_in x1 2 = true then (some (some (.int 1), (cd_mm L w (cd_up (cd_up I 59 x1.toNatClampNeg (I 2 16)) 58 x1.toNatClampNeg 1) J))) else none) else none) = some r) : cd_go 135 14 [.ref 2, .int x1] [] (cd_mm L w I J) = some r := by
  refine cd_q135_14 ?_
  simp only [cd_zwI, cd_zwL, cd_zI, cd_zJ, cd_zcp, true_and, if_true, cd_zk_2, cd_zR_2_9, cd_zk_59, cd_zn_59, cd_zR_2_8, cd_zk_58, cd_zn_58]
  exact h
set_option maxRecDepth 1000000 in
set_option maxHeartbeats 8000000 in
theorem cd_s136_21 {x1 : Int32} {L : Nat} {w : Bool} {I : Nat → Nat → Int32} {J : Nat → Nat → Int64} {r : cd_Ret} (h : (if cd_in x1 2 = true then (some (some (.int 1), (cd_mm L w (cd_up I 2 16 (I 59 x1.toNatClampNeg)) J))) else none) = some r) : cd_go 136 21 [.ref 2, .int x1] [] (cd_mm L w I J) = some r := by
  refine cd_q136_21 ?_
  simp only [cd_zwI, cd_zwL, cd_zI, cd_zJ, cd_zcp, true_and, if_true, cd_zk_2, cd_zR_2_9, cd_zk_59, cd_zn_59]
  exact h
set_option maxRecDepth 1000000 in
set_option maxHeartbeats 8000000 in
theorem cd_s138_0 {y0 : Int64} {y2 : Int64} {y4 : Int64} {L : Nat} {w : Bool} {I : Nat → Nat → Int32} {J : Nat → Nat → Int64} {r : cd_Ret} (h : (if (lg_cmp y0 y2) < 0 then (some (some (.int 0), (cd_mm L w I J))) else if 0 < (lg_cmp y0 y4) then (some (some (.int 0), (cd_mm L w I J))) else some (some (.int 1), (cd_mm L w I J))) = some r) : cd_go 138 0 [.long y0, .null, .long y2, .null, .long y4, .null] [] (cd_mm L w I J) = some r := cd_q138_0 h
set_option maxRecDepth 1000000 in
set_option maxHeartbeats 8000000 in
theorem cd_s139_0 {x0 : Int32} {x1 : Int32} {L : Nat} {w : Bool} {I : Nat → Nat → Int32} {J : Nat → Nat → Int64} {r : cd_Ret} (h : (if ((x0 >>> (x1 &&& 31)) &&& 1) = 1 then (some (some (.int 1), (cd_mm L w I J))) else some (some (.int 0), (cd_mm L w I J))) = some r) : cd_go 139 0 [.int x0, .int x1] [] (cd_mm L w I J) = some r := cd_q139_0 h
set_option maxRecDepth 1000000 in
set_option maxHeartbeats 8000000 in
theorem cd_s140_0 {x0 : Int32} {L : Nat} {w : Bool} {I : Nat → Nat → Int32} {J : Nat → Nat → Int64} {r : cd_Ret} (h : ((cd_ci (cd_c 138 [.long x0.toInt64, .long 0, .long 63] (cd_mm L w I J))).bind fun q => cd_go 140 5 [.int x0] [.int q.1] q.2) = some r) : cd_go 140 0 [.int x0] [] (cd_mm L w I J) = some r := cd_q140_0 h
set_option maxRecDepth 1000000 in
set_option maxHeartbeats 8000000 in
theorem cd_s140_5 {x0 : Int32} {s0 : Int32} {L : Nat} {w : Bool} {I : Nat → Nat → Int32} {J : Nat → Nat → Int64} {r : cd_Ret} (h : (if s0 &&& 1 = s0 then some (some (.int s0), (cd_mm L w I J)) else none) = some r) : cd_go 140 5 [.int x0] [.int s0] (cd_mm L w I J) = some r := cd_q140_5 h
set_option maxRecDepth 1000000 in
set_option maxHeartbeats 8000000 in
theorem cd_s141_0 {x1 : Int32} {L : Nat} {w : Bool} {I : Nat → Nat → Int32} {J : Nat → Nat → Int64} {r : cd_Ret} (h : ((cd_ci (cd_c 138 [.long x1.toInt64, .long 0, .long (((I 100 0) - 1).toInt64)] (cd_mm L w I J))).bind fun q => cd_go 141 9 [.ref 100, .int x1] [.int q.1] q.2) = some r) : cd_go 141 0 [.ref 100, .int x1] [] (cd_mm L w I J) = some r := by
  refine cd_q141_0 ?_
  simp only [cd_zwI, cd_zwL, cd_zI, cd_zJ, cd_zcp, true_and, if_true, cd_zk_100]
  exact h
set_option maxRecDepth 1000000 in
set_option maxHeartbeats 8000000 in
theorem cd_s141_9 {x1 : Int32} {s0 : Int32} {L : Nat} {w : Bool} {I : Nat → Nat → Int32} {J : Nat → Nat → Int64} {r : cd_Ret} (h : (if s0 &&& 1 = s0 then some (some (.int s0), (cd_mm L w I J)) else none) = some r) : cd_go 141 9 [.ref 100, .int x1] [.int s0] (cd_mm L w I J) = some r := cd_q141_9 h
set_option maxRecDepth 1000000 in
set_option maxHeartbeats 8000000 in
theorem cd_s142_0 {x1 : Int32} {L : Nat} {w : Bool} {I : Nat → Nat → Int32} {J : Nat → Nat → Int64} {r : cd_Ret} (h : ((cd_ci (cd_c 138 [.long x1.toInt64, .long 0, .long (((I 100 9) - 1).toInt64)] (cd_mm L w I J))).bind fun q => cd_go 142 9 [.ref 100, .int x1] [.int q.1] q.2) = some r) : cd_go 142 0 [.ref 100, .int x1] [] (cd_mm L w I J) = some r := by
  refine cd_q142_0 ?_
  simp only [cd_zwI, cd_zwL, cd_zI, cd_zJ, cd_zcp, true_and, if_true, cd_zk_100]
  exact h
set_option maxRecDepth 1000000 in
set_option maxHeartbeats 8000000 in
theorem cd_s142_9 {x1 : Int32} {s0 : Int32} {L : Nat} {w : Bool} {I : Nat → Nat → Int32} {J : Nat → Nat → Int64} {r : cd_Ret} (h : (if s0 &&& 1 = s0 then some (some (.int s0), (cd_mm L w I J)) else none) = some r) : cd_go 142 9 [.ref 100, .int x1] [.int s0] (cd_mm L w I J) = some r := cd_q142_9 h
set_option maxRecDepth 1000000 in
set_option maxHeartbeats 8000000 in
theorem cd_s143_0 {x0 : Int32} {L : Nat} {w : Bool} {I : Nat → Nat → Int32} {J : Nat → Nat → Int64} {r : cd_Ret} (h : ((cd_ci (cd_c 138 [.long x0.toInt64, .long 0, .long 999] (cd_mm L w I J))).bind fun q => cd_go 143 5 [.int x0] [.int q.1] q.2) = some r) : cd_go 143 0 [.int x0] [] (cd_mm L w I J) = some r := cd_q143_0 h
set_option maxRecDepth 1000000 in
set_option maxHeartbeats 8000000 in
theorem cd_s143_5 {x0 : Int32} {s0 : Int32} {L : Nat} {w : Bool} {I : Nat → Nat → Int32} {J : Nat → Nat → Int64} {r : cd_Ret} (h : (if s0 &&& 1 = s0 then some (some (.int s0), (cd_mm L w I J)) else none) = some r) : cd_go 143 5 [.int x0] [.int s0] (cd_mm L w I J) = some r := cd_q143_5 h
set_option maxRecDepth 1000000 in
set_option maxHeartbeats 8000000 in
theorem cd_s144_0 {x0 : Int32} {L : Nat} {w : Bool} {I : Nat → Nat → Int32} {J : Nat → Nat → Int64} {r : cd_Ret} (h : (if x0 < 0 then (some (some (.int (-x0)), (cd_mm L w I J))) else some (some (.int x0), (cd_mm L w I J))) = some r) : cd_go 144 0 [.int x0] [] (cd_mm L w I J) = some r := cd_q144_0 h
set_option maxRecDepth 1000000 in
set_option maxHeartbeats 8000000 in
theorem cd_s145_0 {x0 : Int32} {L : Nat} {w : Bool} {I : Nat → Nat → Int32} {J : Nat → Nat → Int64} {r : cd_Ret} (h : (if x0 < 0 then (some (some (.int (-1)), (cd_mm L w I J))) else if 0 < x0 then (some (some (.int 1), (cd_mm L w I J))) else some (some (.int 0), (cd_mm L w I J))) = some r) : cd_go 145 0 [.int x0] [] (cd_mm L w I J) = some r := cd_q145_0 h
set_option maxRecDepth 1000000 in
set_option maxHeartbeats 8000000 in
theorem cd_s146_0 {x0 : Int32} {x1 : Int32} {L : Nat} {w : Bool} {I : Nat → Nat → Int32} {J : Nat → Nat → Int64} {r : cd_Ret} (h : ((cd_ci (cd_c 144 [.int ((x0 / 8) - (x1 / 8))] (cd_mm L w I J))).bind fun q => cd_go 146 8 [.int x0, .int x1] [.int q.1] q.2) = some r) : cd_go 146 0 [.int x0, .int x1] [] (cd_mm L w I J) = some r := cd_q146_0 h
set_option maxRecDepth 1000000 in
set_option maxHeartbeats 8000000 in
theorem cd_s146_8 {x0 : Int32} {x1 : Int32} {s0 : Int32} {L : Nat} {w : Bool} {I : Nat → Nat → Int32} {J : Nat → Nat → Int64} {r : cd_Ret} (h : ((cd_ci (cd_c 144 [.int ((x0 - x0 / 8 * 8) - (x1 - x1 / 8 * 8))] (cd_mm L w I J))).bind fun q => cd_go 146 16 [.int x0, .int x1] [.int q.1, .int s0] q.2) = some r) : cd_go 146 8 [.int x0, .int x1] [.int s0] (cd_mm L w I J) = some r := cd_q146_8 h
set_option maxRecDepth 1000000 in
set_option maxHeartbeats 8000000 in
theorem cd_s146_16 {x0 : Int32} {x1 : Int32} {s0 : Int32} {s1 : Int32} {L : Nat} {w : Bool} {I : Nat → Nat → Int32} {J : Nat → Nat → Int64} {r : cd_Ret} (h : (some (some (.int (s0 + s1)), (cd_mm L w I J))) = some r) : cd_go 146 16 [.int x0, .int x1] [.int s1, .int s0] (cd_mm L w I J) = some r := cd_q146_16 h
set_option maxRecDepth 1000000 in
set_option maxHeartbeats 8000000 in
theorem cd_s147_0 {x0 : Int32} {x1 : Int32} {L : Nat} {w : Bool} {I : Nat → Nat → Int32} {J : Nat → Nat → Int64} {r : cd_Ret} (h : (if x1 < 2 then (if x1 = 0 then ((cd_ci (cd_c 140 [.int (x0 - 8)] (cd_mm L w I J))).bind fun q => cd_go 147 15 [.int x0, .int x1, .int (x0 - 8)] [.int q.1] q.2) else (cd_ci (cd_c 140 [.int (x0 + 8)] (cd_mm L w I J))).bind fun q => cd_go 147 15 [.int x0, .int x1, .int (x0 + 8)] [.int q.1] q.2) else if x1 = 2 then (if 0 < (x0 - x0 / 8 * 8) then (if x1 = 2 then (some (some (.int (x0 - 1)), (cd_mm L w I J))) else some (some (.int (x0 + 1)), (cd_mm L w I J))) else some (some (.int (-1)), (cd_mm L w I J))) else if (x0 - x0 / 8 * 8) < 7 then (if x1 = 2 then (some (some (.int (x0 - 1)), (cd_mm L w I J))) else some (some (.int (x0 + 1)), (cd_mm L w I J))) else some (some (.int (-1)), (cd_mm L w I J))) = some r) : cd_go 147 0 [.int x0, .int x1, .null] [] (cd_mm L w I J) = some r := cd_q147_0 h
set_option maxRecDepth 1000000 in
set_option maxHeartbeats 8000000 in
theorem cd_s147_15 {x0 : Int32} {x1 : Int32} {x2 : Int32} {s0 : Int32} {L : Nat} {w : Bool} {I : Nat → Nat → Int32} {J : Nat → Nat → Int64} {r : cd_Ret} (h : (if s0 = 0 then (some (some (.int (-1)), (cd_mm L w I J))) else some (some (.int x2), (cd_mm L w I J))) = some r) : cd_go 147 15 [.int x0, .int x1, .int x2] [.int s0] (cd_mm L w I J) = some r := cd_q147_15 h
set_option maxRecDepth 1000000 in
set_option maxHeartbeats 8000000 in
theorem cd_s148_0 {x1 : Int32} {L : Nat} {w : Bool} {I : Nat → Nat → Int32} {J : Nat → Nat → Int64} {r : cd_Ret} (h : (cd_go 148 4 [.ref 100, .int x1, .int (-1), .int 0] [] (cd_mm L w I J)) = some r) : cd_go 148 0 [.ref 100, .int x1, .null, .null] [] (cd_mm L w I J) = some r := cd_q148_0 h
set_option maxRecDepth 1000000 in
set_option maxHeartbeats 8000000 in
theorem cd_s148_4 {x1 : Int32} {x2 : Int32} {x3 : Int32} {L : Nat} {w : Bool} {I : Nat → Nat → Int32} {J : Nat → Nat → Int64} {r : cd_Ret} (h : (if x3 < (I 100 0) then (if cd_in x3 8 = true then (if (I 101 x3.toNatClampNeg) = x1 then (cd_go 148 4 [.ref 100, .int x1, .int x3, .int (x3 + 1)] [] (cd_mm L w I J)) else cd_go 148 4 [.ref 100, .int x1, .int x2, .int (x3 + 1)] [] (cd_mm L w I J)) else none) else some (some (.int x2), (cd_mm L w I J))) = some r) : cd_go 148 4 [.ref 100, .int x1, .int x2, .int x3] [] (cd_mm L w I J) = some r := by
  refine cd_q148_4 ?_
  simp only [cd_zwI, cd_zwL, cd_zI, cd_zJ, cd_zcp, true_and, if_true, cd_zk_100, cd_zR_100_1, cd_zk_101, cd_zn_101]
  exact h
set_option maxRecDepth 1000000 in
set_option maxHeartbeats 8000000 in
theorem cd_s149_0 {x1 : Int32} {x2 : Int32} {o : Nat} (ho : o = 107 ∨ o = 115) {L : Nat} {w : Bool} {I : Nat → Nat → Int32} {J : Nat → Nat → Int64} {r : cd_Ret} (h : (if cd_in ((5 : Int32) * x1) 15 = true then (if cd_in (((5 : Int32) * x1) + 1) 15 = true then ((cd_ci (cd_c 138 [.long (((x2 / 8) - ((I o ((5 : Int32) * x1).toNatClampNeg) / 8)).toInt64), .long 0, .long (((I o (((5 : Int32) * x1) + 1).toNatClampNeg) - 1).toInt64)] (cd_mm L w I J))).bind fun q => cd_go 149 26 [.ref o, .int x1, .int x2, .int (I o ((5 : Int32) * x1).toNatClampNeg)] [.int q.1] q.2) else none) else none) = some r) : cd_go 149 0 [.ref o, .int x1, .int x2, .null] [] (cd_mm L w I J) = some r := by
  refine cd_q149_0 ?_
  simp only [cd_zwI, cd_zwL, cd_zI, cd_zJ, cd_zcp, true_and, if_true, cd_zk_o0_107_115 ho, cd_zn_o0_107_115 ho]
  exact h
set_option maxRecDepth 1000000 in
set_option maxHeartbeats 8000000 in
theorem cd_s149_26 {x1 : Int32} {x2 : Int32} {x3 : Int32} {s0 : Int32} {o : Nat} (ho : o = 107 ∨ o = 115) {L : Nat} {w : Bool} {I : Nat → Nat → Int32} {J : Nat → Nat → Int64} {r : cd_Ret} (h : (if s0 = 0 then (some (some (.int 0), (cd_mm L w I J))) else if cd_in (((5 : Int32) * x1) + 2) 15 = true then ((cd_ci (cd_c 138 [.long (((x2 - x2 / 8 * 8) - (x3 - x3 / 8 * 8)).toInt64), .long 0, .long (((I o (((5 : Int32) * x1) + 2).toNatClampNeg) - 1).toInt64)] (cd_mm L w I J))).bind fun q => cd_go 149 47 [.ref o, .int x1, .int x2, .int x3] [.int q.1] q.2) else none) = some r) : cd_go 149 26 [.ref o, .int x1, .int x2, .int x3] [.int s0] (cd_mm L w I J) = some r := by
  refine cd_q149_26 ?_
  simp only [cd_zwI, cd_zwL, cd_zI, cd_zJ, cd_zcp, true_and, if_true, cd_zk_o0_107_115 ho, cd_zn_o0_107_115 ho]
  exact h
set_option maxRecDepth 1000000 in
set_option maxHeartbeats 8000000 in
theorem cd_s149_47 {x1 : Int32} {x2 : Int32} {x3 : Int32} {s0 : Int32} {o : Nat} (ho : o = 107 ∨ o = 115) {L : Nat} {w : Bool} {I : Nat → Nat → Int32} {J : Nat → Nat → Int64} {r : cd_Ret} (h : (if s0 = 0 then (some (some (.int 0), (cd_mm L w I J))) else some (some (.int 1), (cd_mm L w I J))) = some r) : cd_go 149 47 [.ref o, .int x1, .int x2, .int x3] [.int s0] (cd_mm L w I J) = some r := cd_q149_47 h
set_option maxRecDepth 1000000 in
set_option maxHeartbeats 8000000 in
theorem cd_s150_0 {x1 : Int32} {x2 : Int32} {L : Nat} {w : Bool} {I : Nat → Nat → Int32} {J : Nat → Nat → Int64} {r : cd_Ret} (h : ((cd_ci (cd_c 149 [.ref 107, .int x1, .int x2] (cd_mm L w I J))).bind fun q => cd_go 150 5 [.ref 100, .int x1, .int x2] [.int q.1] q.2) = some r) : cd_go 150 0 [.ref 100, .int x1, .int x2] [] (cd_mm L w I J) = some r := by
  refine cd_q150_0 ?_
  simp only [cd_zwI, cd_zwL, cd_zI, cd_zJ, cd_zcp, true_and, if_true, cd_zk_100, cd_zR_100_8]
  exact h
set_option maxRecDepth 1000000 in
set_option maxHeartbeats 8000000 in
theorem cd_s150_5 {x1 : Int32} {x2 : Int32} {s0 : Int32} {L : Nat} {w : Bool} {I : Nat → Nat → Int32} {J : Nat → Nat → Int64} {r : cd_Ret} (h : (if s0 &&& 1 = s0 then some (some (.int s0), (cd_mm L w I J)) else none) = some r) : cd_go 150 5 [.ref 100, .int x1, .int x2] [.int s0] (cd_mm L w I J) = some r := cd_q150_5 h
set_option maxRecDepth 1000000 in
set_option maxHeartbeats 8000000 in
theorem cd_s151_0 {x1 : Int32} {y2 : Int64} {L : Nat} {w : Bool} {I : Nat → Nat → Int32} {J : Nat → Nat → Int64} {r : cd_Ret} (h : ((cd_ci (cd_c 138 [.long x1.toInt64, .long 1, .long 8] (cd_mm L w I J))).bind fun q => cd_go 151 5 [.ref 100, .int x1, .long y2, .null, .null] [.int q.1] q.2) = some r) : cd_go 151 0 [.ref 100, .int x1, .long y2, .null, .null] [] (cd_mm L w I J) = some r := cd_q151_0 h
set_option maxRecDepth 1000000 in
set_option maxHeartbeats 8000000 in
theorem cd_s151_5 {x1 : Int32} {y2 : Int64} {s0 : Int32} {L : Nat} {w : Bool} {I : Nat → Nat → Int32} {J : Nat → Nat → Int64} {r : cd_Ret} (h : (if s0 = 0 then (some (some (.int (-1002)), (cd_mm L w I J))) else if 500 < ((I 100 18) + x1) then (some (some (.int (-1004)), (cd_mm L w I J))) else cd_go 151 20 [.ref 100, .int x1, .long y2, .null, .int (x1 - 1)] [] (cd_mm L w I J)) = some r) : cd_go 151 5 [.ref 100, .int x1, .long y2, .null, .null] [.int s0] (cd_mm L w I J) = some r := by
  refine cd_q151_5 ?_
  simp only [cd_zwI, cd_zwL, cd_zI, cd_zJ, cd_zcp, true_and, if_true, cd_zk_100]
  exact h
set_option maxRecDepth 1000000 in
set_option maxHeartbeats 8000000 in
theorem cd_s151_20 {x1 : Int32} {y2 : Int64} {x4 : Int32} {L : Nat} {w : Bool} {I : Nat → Nat → Int32} {J : Nat → Nat → Int64} {r : cd_Ret} (h : (if x4 < 0 then (some (some (.int (I 100 18)), (cd_mm L w I J))) else if cd_in (I 100 18) 500 = true then (cd_go 151 20 [.ref 100, .int x1, .long y2, .null, .int (x4 + (-1))] [] (cd_mm L w (cd_up (cd_up I 113 (I 100 18).toNatClampNeg (((y2 >>> (((8 : Int32) * x4).toInt64 &&& 63)) &&& 255).toInt32)) 100 18 (((cd_up I 113 (I 100 18).toNatClampNeg (((y2 >>> (((8 : Int32) * x4).toInt64 &&& 63)) &&& 255).toInt32)) 100 18) + 1)) J)) else none) = some r) : cd_go 151 20 [.ref 100, .int x1, .long y2, .null, .int x4] [] (cd_mm L w I J) = some r := by
  refine cd_q151_20 ?_
  simp only [cd_zwI, cd_zwL, cd_zI, cd_zJ, cd_zcp, true_and, if_true, cd_zk_100, cd_zR_100_17, cd_zk_113, cd_zn_113]
  exact h
set_option maxRecDepth 1000000 in
set_option maxHeartbeats 8000000 in
theorem cd_s152_0 {L : Nat} {w : Bool} {I : Nat → Nat → Int32} {J : Nat → Nat → Int64} {r : cd_Ret} (h : (if (I 100 20) < (I 100 18) then (if cd_in (I 100 20) 500 = true then (if (I 113 (I 100 20).toNatClampNeg) = 32 then (cd_go 152 0 [.ref 100] [] (cd_mm L w (cd_up I 100 20 ((I 100 20) + 1)) J)) else if (I 100 20) < (I 100 18) then (if cd_in (I 100 20) 500 = true then (some (some (.int (I 113 (I 100 20).toNatClampNeg)), (cd_mm L w I J))) else none) else some (some (.int (-1)), (cd_mm L w I J))) else none) else if (I 100 20) < (I 100 18) then (if cd_in (I 100 20) 500 = true then (some (some (.int (I 113 (I 100 20).toNatClampNeg)), (cd_mm L w I J))) else none) else some (some (.int (-1)), (cd_mm L w I J))) = some r) : cd_go 152 0 [.ref 100] [] (cd_mm L w I J) = some r := by
  refine cd_q152_0 ?_
  simp only [cd_zwI, cd_zwL, cd_zI, cd_zJ, cd_zcp, true_and, if_true, cd_zk_100, cd_zR_100_17, cd_zk_113, cd_zn_113]
  exact h
set_option maxRecDepth 1000000 in
set_option maxHeartbeats 8000000 in
theorem cd_s153_0 {x1 : Int32} {x2 : Int32} {L : Nat} {w : Bool} {I : Nat → Nat → Int32} {J : Nat → Nat → Int64} {r : cd_Ret} (h : (some (some (.int x1), (cd_mm L w (cd_up I 100 19 x2) J))) = some r) : cd_go 153 0 [.ref 100, .int x1, .int x2] [] (cd_mm L w I J) = some r := by
  refine cd_q153_0 ?_
  simp only [cd_zwI, cd_zwL, cd_zI, cd_zJ, cd_zcp, true_and, if_true, cd_zk_100]
  exact h
set_option maxRecDepth 1000000 in
set_option maxHeartbeats 8000000 in
theorem cd_s154_0 {L : Nat} {w : Bool} {I : Nat → Nat → Int32} {J : Nat → Nat → Int64} {r : cd_Ret} (h : ((cd_ci (cd_c 152 [.ref 100] (cd_mm L w I J))).bind fun q => cd_go 154 2 [.ref 100, .null] [.int q.1] q.2) = some r) : cd_go 154 0 [.ref 100, .null] [] (cd_mm L w I J) = some r := by
  refine cd_q154_0 ?_
  simp only [cd_zwI, cd_zwL, cd_zI, cd_zJ, cd_zcp, true_and, if_true, cd_zk_100]
  exact h
set_option maxRecDepth 1000000 in
set_option maxHeartbeats 8000000 in
theorem cd_s154_2 {s0 : Int32} {L : Nat} {w : Bool} {I : Nat → Nat → Int32} {J : Nat → Nat → Int64} {r : cd_Ret} (h : (cd_go 154 10 [.ref 100, .int s0] [] (cd_mm L w (cd_up I 100 22 (I 100 20)) (cd_up J 100 21 0))) = some r) : cd_go 154 2 [.ref 100, .null] [.int s0] (cd_mm L w I J) = some r := by
  refine cd_q154_2 ?_
  simp only [cd_zwI, cd_zwL, cd_zI, cd_zJ, cd_zcp, true_and, if_true, cd_zk_100]
  exact h
set_option maxRecDepth 1000000 in
set_option maxHeartbeats 8000000 in
theorem cd_s154_10 {x1 : Int32} {L : Nat} {w : Bool} {I : Nat → Nat → Int32} {J : Nat → Nat → Int64} {r : cd_Ret} (h : (if (I 100 22) < (I 100 18) then (if cd_in (I 100 22) 500 = true then ((cd_ci (cd_c 138 [.long ((I 113 (I 100 22).toNatClampNeg).toInt64), .long 97, .long 122] (cd_mm L w I J))).bind fun q => cd_go 154 24 [.ref 100, .int x1] [.int q.1] q.2) else none) else some (none, (cd_mm L w I J))) = some r) : cd_go 154 10 [.ref 100, .int x1] [] (cd_mm L w I J) = some r := by
  refine cd_q154_10 ?_
  simp only [cd_zwI, cd_zwL, cd_zI, cd_zJ, cd_zcp, true_and, if_true, cd_zk_100, cd_zR_100_17, cd_zk_113, cd_zn_113]
  exact h
set_option maxRecDepth 1000000 in
set_option maxHeartbeats 8000000 in
theorem cd_s154_24 {x1 : Int32} {s0 : Int32} {L : Nat} {w : Bool} {I : Nat → Nat → Int32} {J : Nat → Nat → Int64} {r : cd_Ret} (h : (if s0 = 0 then (some (none, (cd_mm L w I J))) else if 0 < (lg_cmp (J 100 21) 1000000000000) then (cd_go 154 10 [.ref 100, .int x1] [] (cd_mm L w (cd_up I 100 22 ((I 100 22) + 1)) (cd_up J 100 21 2000000000000))) else if cd_in (I 100 22) 500 = true then (cd_go 154 10 [.ref 100, .int x1] [] (cd_mm L w (cd_up I 100 22 ((I 100 22) + 1)) (cd_up J 100 21 ((((27 : Int64) * (J 100 21)) + ((I 113 (I 100 22).toNatClampNeg).toInt64)) - 96)))) else none) = some r) : cd_go 154 24 [.ref 100, .int x1] [.int s0] (cd_mm L w I J) = some r := by
  refine cd_q154_24 ?_
  simp only [cd_zwI, cd_zwL, cd_zI, cd_zJ, cd_zcp, true_and, if_true, cd_zk_100, cd_zR_100_17, cd_zk_113, cd_zn_113]
  exact h
set_option maxRecDepth 1000000 in
set_option maxHeartbeats 8000000 in
theorem cd_s155_0 {x0 : Int32} {x1 : Int32} {x2 : Int32} {x3 : Int32} {L : Nat} {w : Bool} {I : Nat → Nat → Int32} {J : Nat → Nat → Int64} {r : cd_Ret} (h : (some (some (.long ((((27 : Int64) * ((((27 : Int64) * ((((27 : Int64) * (x0.toInt64 - 96)) + x1.toInt64) - 96)) + x2.toInt64) - 96)) + x3.toInt64) - 96)), (cd_mm L w I J))) = some r) : cd_go 155 0 [.int x0, .int x1, .int x2, .int x3] [] (cd_mm L w I J) = some r := cd_q155_0 h
set_option maxRecDepth 1000000 in
set_option maxHeartbeats 8000000 in
theorem cd_s156_0 {y0 : Int64} {x2 : Int32} {L : Nat} {w : Bool} {I : Nat → Nat → Int32} {J : Nat → Nat → Int64} {r : cd_Ret} (h : (some (some (.long ((((27 : Int64) * y0) + x2.toInt64) - 96)), (cd_mm L w I J))) = some r) : cd_go 156 0 [.long y0, .null, .int x2] [] (cd_mm L w I J) = some r := cd_q156_0 h
set_option maxRecDepth 1000000 in
set_option maxHeartbeats 8000000 in
theorem cd_s157_0 {x1 : Int32} {x2 : Int32} {L : Nat} {w : Bool} {I : Nat → Nat → Int32} {J : Nat → Nat → Int64} {r : cd_Ret} (h : ((cd_ci (cd_c 152 [.ref 100] (cd_mm L w I J))).bind fun q => cd_go 157 2 [.ref 100, .int x1, .int x2, .null] [.int q.1] q.2) = some r) : cd_go 157 0 [.ref 100, .int x1, .int x2, .null] [] (cd_mm L w I J) = some r := by
  refine cd_q157_0 ?_
  simp only [cd_zwI, cd_zwL, cd_zI, cd_zJ, cd_zcp, true_and, if_true, cd_zk_100]
  exact h
set_option maxRecDepth 1000000 in
set_option maxHeartbeats 8000000 in
theorem cd_s157_2 {x1 : Int32} {x2 : Int32} {s0 : Int32} {L : Nat} {w : Bool} {I : Nat → Nat → Int32} {J : Nat → Nat → Int64} {r : cd_Ret} (h : ((cd_ci (cd_c 138 [.long s0.toInt64, .long 48, .long 57] (cd_mm L w I J))).bind fun q => cd_go 157 8 [.ref 100, .int x1, .int x2, .int s0] [.int q.1] q.2) = some r) : cd_go 157 2 [.ref 100, .int x1, .int x2, .null] [.int s0] (cd_mm L w I J) = some r := cd_q157_2 h
set_option maxRecDepth 1000000 in
set_option maxHeartbeats 8000000 in
theorem cd_s157_8 {x1 : Int32} {x2 : Int32} {x3 : Int32} {s0 : Int32} {L : Nat} {w : Bool} {I : Nat → Nat → Int32} {J : Nat → Nat → Int64} {r : cd_Ret} (h : (if s0 = 0 then ((cd_ci (cd_c 153 [.ref 100, .int 1, .int (I 100 20)] (cd_mm L w I J))).bind fun q => cd_go 157 14 [.ref 100, .int x1, .int x2, .int x3] [.int q.1] q.2) else cd_go 157 22 [.ref 100, .int x1, .int x2, .int x3] [] (cd_mm L w (cd_up (cd_up I 100 24 (I 100 20)) 100 23 0) J)) = some r) : cd_go 157 8 [.ref 100, .int x1, .int x2, .int x3] [.int s0] (cd_mm L w I J) = some r := by
  refine cd_q157_8 ?_
  simp only [cd_zwI, cd_zwL, cd_zI, cd_zJ, cd_zcp, true_and, if_true, cd_zk_100]
  exact h
set_option maxRecDepth 1000000 in
set_option maxHeartbeats 8000000 in
theorem cd_s157_14 {x1 : Int32} {x2 : Int32} {x3 : Int32} {s0 : Int32} {L : Nat} {w : Bool} {I : Nat → Nat → Int32} {J : Nat → Nat → Int64} {r : cd_Ret} (h : (some (some (.int s0), (cd_mm L w I J))) = some r) : cd_go 157 14 [.ref 100, .int x1, .int x2, .int x3] [.int s0] (cd_mm L w I J) = some r := cd_q157_14 h
set_option maxRecDepth 1000000 in
set_option maxHeartbeats 8000000 in
theorem cd_s157_22 {x1 : Int32} {x2 : Int32} {x3 : Int32} {L : Nat} {w : Bool} {I : Nat → Nat → Int32} {J : Nat → Nat → Int64} {r : cd_Ret} (h : (if (I 100 20) < (I 100 18) then (if cd_in (I 100 20) 500 = true then ((cd_ci (cd_c 138 [.long ((I 113 (I 100 20).toNatClampNeg).toInt64), .long 48, .long 57] (cd_mm L w I J))).bind fun q => cd_go 157 36 [.ref 100, .int x1, .int x2, .int x3] [.int q.1] q.2) else none) else if 2 < ((I 100 20) - (I 100 24)) then ((cd_ci (cd_c 153 [.ref 100, .int 2, .int (I 100 24)] (cd_mm L w I J))).bind fun q => cd_go 157 86 [.ref 100, .int x1, .int x2, .int x3] [.int q.1] q.2) else (cd_ci (cd_c 138 [.long ((I 100 23).toInt64), .long x1.toInt64, .long x2.toInt64] (cd_mm L w I J))).bind fun q => cd_go 157 80 [.ref 100, .int x1, .int x2, .int x3] [.int q.1] q.2) = some r) : cd_go 157 22 [.ref 100, .int x1, .int x2, .int x3] [] (cd_mm L w I J) = some r := by
  refine cd_q157_22 ?_
  simp only [cd_zwI, cd_zwL, cd_zI, cd_zJ, cd_zcp, true_and, if_true, cd_zk_100, cd_zR_100_17, cd_zk_113, cd_zn_113]
  exact h
set_option maxRecDepth 1000000 in
set_option maxHeartbeats 8000000 in
theorem cd_s157_36 {x1 : Int32} {x2 : Int32} {x3 : Int32} {s0 : Int32} {L : Nat} {w : Bool} {I : Nat → Nat → Int32} {J : Nat → Nat → Int64} {r : cd_Ret} (h : (if s0 = 0 then (if 2 < ((I 100 20) - (I 100 24)) then ((cd_ci (cd_c 153 [.ref 100, .int 2, .int (I 100 24)] (cd_mm L w I J))).bind fun q => cd_go 157 86 [.ref 100, .int x1, .int x2, .int x3] [.int q.1] q.2) else (cd_ci (cd_c 138 [.long ((I 100 23).toInt64), .long x1.toInt64, .long x2.toInt64] (cd_mm L w I J))).bind fun q => cd_go 157 80 [.ref 100, .int x1, .int x2, .int x3] [.int q.1] q.2) else if 1000 < (I 100 23) then (cd_go 157 22 [.ref 100, .int x1, .int x2, .int x3] [] (cd_mm L w (cd_up (cd_up I 100 23 (I 100 23)) 100 20 (((cd_up I 100 23 (I 100 23)) 100 20) + 1)) J)) else if cd_in (I 100 20) 500 = true then (cd_go 157 22 [.ref 100, .int x1, .int x2, .int x3] [] (cd_mm L w (cd_up (cd_up I 100 23 ((((10 : Int32) * (I 100 23)) + (I 113 (I 100 20).toNatClampNeg)) - 48)) 100 20 (((cd_up I 100 23 ((((10 : Int32) * (I 100 23)) + (I 113 (I 100 20).toNatClampNeg)) - 48)) 100 20) + 1)) J)) else none) = some r) : cd_go 157 36 [.ref 100, .int x1, .int x2, .int x3] [.int s0] (cd_mm L w I J) = some r := by
  refine cd_q157_36 ?_
  simp only [cd_zwI, cd_zwL, cd_zI, cd_zJ, cd_zcp, true_and, if_true, cd_zk_100, cd_zR_100_17, cd_zk_113, cd_zn_113]
  exact h
set_option maxRecDepth 1000000 in
set_option maxHeartbeats 8000000 in
theorem cd_s157_80 {x1 : Int32} {x2 : Int32} {x3 : Int32} {s0 : Int32} {L : Nat} {w : Bool} {I : Nat → Nat → Int32} {J : Nat → Nat → Int64} {r : cd_Ret} (h : (if s0 = 0 then ((cd_ci (cd_c 153 [.ref 100, .int 2, .int (I 100 24)] (cd_mm L w I J))).bind fun q => cd_go 157 86 [.ref 100, .int x1, .int x2, .int x3] [.int q.1] q.2) else some (some (.int 0), (cd_mm L w I J))) = some r) : cd_go 157 80 [.ref 100, .int x1, .int x2, .int x3] [.int s0] (cd_mm L w I J) = some r := by
  refine cd_q157_80 ?_
  simp only [cd_zwI, cd_zwL, cd_zI, cd_zJ, cd_zcp, true_and, if_true, cd_zk_100]
  exact h
set_option maxRecDepth 1000000 in
set_option maxHeartbeats 8000000 in
theorem cd_s157_86 {x1 : Int32} {x2 : Int32} {x3 : Int32} {s0 : Int32} {L : Nat} {w : Bool} {I : Nat → Nat → Int32} {J : Nat → Nat → Int64} {r : cd_Ret} (h : (some (some (.int s0), (cd_mm L w I J))) = some r) : cd_go 157 86 [.ref 100, .int x1, .int x2, .int x3] [.int s0] (cd_mm L w I J) = some r := cd_q157_86 h
set_option maxRecDepth 1000000 in
set_option maxHeartbeats 8000000 in
theorem cd_s158_0 {L : Nat} {w : Bool} {I : Nat → Nat → Int32} {J : Nat → Nat → Int64} {r : cd_Ret} (h : ((cd_ci (cd_c 152 [.ref 100] (cd_mm L w I J))).bind fun q => cd_go 158 2 [.ref 100] [.int q.1] q.2) = some r) : cd_go 158 0 [.ref 100] [] (cd_mm L w I J) = some r := by
  refine cd_q158_0 ?_
  simp only [cd_zwI, cd_zwL, cd_zI, cd_zJ, cd_zcp, true_and, if_true, cd_zk_100]
  exact h
set_option maxRecDepth 1000000 in
set_option maxHeartbeats 8000000 in
theorem cd_s158_2 {s0 : Int32} {L : Nat} {w : Bool} {I : Nat → Nat → Int32} {J : Nat → Nat → Int64} {r : cd_Ret} (h : (if s0 = 59 then (some (some (.int 0), (cd_mm L w (cd_up I 100 20 ((I 100 20) + 1)) J))) else (cd_ci (cd_c 153 [.ref 100, .int 1, .int (I 100 20)] (cd_mm L w I J))).bind fun q => cd_go 158 9 [.ref 100] [.int q.1] q.2) = some r) : cd_go 158 2 [.ref 100] [.int s0] (cd_mm L w I J) = some r := by
  refine cd_q158_2 ?_
  simp only [cd_zwI, cd_zwL, cd_zI, cd_zJ, cd_zcp, true_and, if_true, cd_zk_100]
  exact h
set_option maxRecDepth 1000000 in
set_option maxHeartbeats 8000000 in
theorem cd_s158_9 {s0 : Int32} {L : Nat} {w : Bool} {I : Nat → Nat → Int32} {J : Nat → Nat → Int64} {r : cd_Ret} (h : (some (some (.int s0), (cd_mm L w I J))) = some r) : cd_go 158 9 [.ref 100] [.int s0] (cd_mm L w I J) = some r := cd_q158_9 h
set_option maxRecDepth 1000000 in
set_option maxHeartbeats 8000000 in
theorem cd_s159_0 {x1 : Int32} {L : Nat} {w : Bool} {I : Nat → Nat → Int32} {J : Nat → Nat → Int64} {r : cd_Ret} (h : (cd_go 159 4 [.ref 100, .int x1, .int 0, .int 0] [] (cd_mm L w I J)) = some r) : cd_go 159 0 [.ref 100, .int x1, .null, .null] [] (cd_mm L w I J) = some r := cd_q159_0 h
set_option maxRecDepth 1000000 in
set_option maxHeartbeats 8000000 in
theorem cd_s159_4 {x1 : Int32} {x2 : Int32} {x3 : Int32} {L : Nat} {w : Bool} {I : Nat → Nat → Int32} {J : Nat → Nat → Int64} {r : cd_Ret} (h : (if x3 < (I 100 25) then (if x2 = 0 then (if cd_in ((5 : Int32) * x3) 40 = true then (if (I 114 ((5 : Int32) * x3).toNatClampNeg) = x1 then (cd_go 159 4 [.ref 100, .int x1, .int 1, .int (x3 + 1)] [] (cd_mm L w I J)) else cd_go 159 4 [.ref 100, .int x1, .int 0, .int (x3 + 1)] [] (cd_mm L w I J)) else none) else cd_go 159 4 [.ref 100, .int x1, .int 1, .int (x3 + 1)] [] (cd_mm L w I J)) else if x2 &&& 1 = x2 then some (some (.int x2), (cd_mm L w I J)) else none) = some r) : cd_go 159 4 [.ref 100, .int x1, .int x2, .int x3] [] (cd_mm L w I J) = some r := by
  refine cd_q159_4 ?_
  simp only [cd_zwI, cd_zwL, cd_zI, cd_zJ, cd_zcp, true_and, if_true, cd_zk_100, cd_zR_100_26, cd_zk_114, cd_zn_114]
  exact h
set_option maxRecDepth 1000000 in
set_option maxHeartbeats 8000000 in
theorem cd_s160_0 {L : Nat} {w : Bool} {I : Nat → Nat → Int32} {J : Nat → Nat → Int64} {r : cd_Ret} (h : ((cd_ci (cd_c 157 [.ref 100, .int 0, .int 63] (cd_mm L w I J))).bind fun q => cd_go 160 9 [.ref 100, .int ((5 : Int32) * (I 100 25)), .null, .null] [.int q.1] q.2) = some r) : cd_go 160 0 [.ref 100, .null, .null, .null] [] (cd_mm L w I J) = some r := by
  refine cd_q160_0 ?_
  simp only [cd_zwI, cd_zwL, cd_zI, cd_zJ, cd_zcp, true_and, if_true, cd_zk_100]
  exact h
set_option maxRecDepth 1000000 in
set_option maxHeartbeats 8000000 in
theorem cd_s160_9 {x1 : Int32} {s0 : Int32} {L : Nat} {w : Bool} {I : Nat → Nat → Int32} {J : Nat → Nat → Int64} {r : cd_Ret} (h : (if cd_in x1 40 = true then (if s0 = 0 then ((cd_ci (cd_c 159 [.ref 100, .int ((cd_up I 114 x1.toNatClampNeg (I 100 23)) 100 23)] (cd_mm L w (cd_up I 114 x1.toNatClampNeg (I 100 23)) J))).bind fun q => cd_go 160 22 [.ref 100, .int x1, .int s0, .null] [.int q.1] q.2) else cd_go 160 31 [.ref 100, .int x1, .int s0, .int 1] [] (cd_mm L w (cd_up I 114 x1.toNatClampNeg (I 100 23)) J)) else none) = some r) : cd_go 160 9 [.ref 100, .int x1, .null, .null] [.int s0] (cd_mm L w I J) = some r := by
  refine cd_q160_9 ?_
  simp only [cd_zwI, cd_zwL, cd_zI, cd_zJ, cd_zcp, true_and, if_true, cd_zk_100, cd_zR_100_26, cd_zk_114, cd_zn_114]
  exact h
set_option maxRecDepth 1000000 in
set_option maxHeartbeats 8000000 in
theorem cd_s160_22 {x1 : Int32} {x2 : Int32} {s0 : Int32} {L : Nat} {w : Bool} {I : Nat → Nat → Int32} {J : Nat → Nat → Int64} {r : cd_Ret} (h : (if s0 = 0 then (cd_go 160 31 [.ref 100, .int x1, .int x2, .int 1] [] (cd_mm L w I J)) else (cd_ci (cd_c 153 [.ref 100, .int 3, .int (I 100 24)] (cd_mm L w I J))).bind fun q => cd_go 160 28 [.ref 100, .int x1, .int x2, .null] [.int q.1] q.2) = some r) : cd_go 160 22 [.ref 100, .int x1, .int x2, .null] [.int s0] (cd_mm L w I J) = some r := by
  refine cd_q160_22 ?_
  simp only [cd_zwI, cd_zwL, cd_zI, cd_zJ, cd_zcp, true_and, if_true, cd_zk_100]
  exact h
set_option maxRecDepth 1000000 in
set_option maxHeartbeats 8000000 in
theorem cd_s160_28 {x1 : Int32} {x2 : Int32} {s0 : Int32} {L : Nat} {w : Bool} {I : Nat → Nat → Int32} {J : Nat → Nat → Int64} {r : cd_Ret} (h : (cd_go 160 31 [.ref 100, .int x1, .int s0, .int 1] [] (cd_mm L w I J)) = some r) : cd_go 160 28 [.ref 100, .int x1, .int x2, .null] [.int s0] (cd_mm L w I J) = some r := cd_q160_28 h
set_option maxRecDepth 1000000 in
set_option maxHeartbeats 8000000 in
theorem cd_s160_31 {x1 : Int32} {x2 : Int32} {x3 : Int32} {L : Nat} {w : Bool} {I : Nat → Nat → Int32} {J : Nat → Nat → Int64} {r : cd_Ret} (h : (if x3 < 5 then (if x2 = 0 then (if x3 = 3 then (if x3 = 1 then ((cd_ci (cd_c 157 [.ref 100, .int 0, .int 20] (cd_mm L w I J))).bind fun q => cd_go 160 55 [.ref 100, .int x1, .int x2, .int x3] [.int q.1] q.2) else if x3 = 4 then ((cd_ci (cd_c 157 [.ref 100, .int 0, .int 9] (cd_mm L w I J))).bind fun q => cd_go 160 55 [.ref 100, .int x1, .int x2, .int x3] [.int q.1] q.2) else (cd_ci (cd_c 157 [.ref 100, .int 0, .int 99] (cd_mm L w I J))).bind fun q => cd_go 160 55 [.ref 100, .int x1, .int x2, .int x3] [.int q.1] q.2) else if x3 = 1 then ((cd_ci (cd_c 157 [.ref 100, .int 1, .int 20] (cd_mm L w I J))).bind fun q => cd_go 160 55 [.ref 100, .int x1, .int x2, .int x3] [.int q.1] q.2) else if x3 = 4 then ((cd_ci (cd_c 157 [.ref 100, .int 1, .int 9] (cd_mm L w I J))).bind fun q => cd_go 160 55 [.ref 100, .int x1, .int x2, .int x3] [.int q.1] q.2) else (cd_ci (cd_c 157 [.ref 100, .int 1, .int 99] (cd_mm L w I J))).bind fun q => cd_go 160 55 [.ref 100, .int x1, .int x2, .int x3] [.int q.1] q.2) else some (some (.int x2), (cd_mm L w (cd_up I 100 25 ((I 100 25) + 1)) J))) else some (some (.int x2), (cd_mm L w (cd_up I 100 25 ((I 100 25) + 1)) J))) = some r) : cd_go 160 31 [.ref 100, .int x1, .int x2, .int x3] [] (cd_mm L w I J) = some r := by
  refine cd_q160_31 ?_
  simp only [cd_zwI, cd_zwL, cd_zI, cd_zJ, cd_zcp, true_and, if_true, cd_zk_100]
  exact h
set_option maxRecDepth 1000000 in
set_option maxHeartbeats 8000000 in
theorem cd_s160_55 {x1 : Int32} {x2 : Int32} {x3 : Int32} {s0 : Int32} {L : Nat} {w : Bool} {I : Nat → Nat → Int32} {J : Nat → Nat → Int64} {r : cd_Ret} (h : (if cd_in (x1 + x3) 40 = true then (cd_go 160 31 [.ref 100, .int x1, .int s0, .int (x3 + 1)] [] (cd_mm L w (cd_up I 114 (x1 + x3).toNatClampNeg (I 100 23)) J)) else none) = some r) : cd_go 160 55 [.ref 100, .int x1, .int x2, .int x3] [.int s0] (cd_mm L w I J) = some r := by
  refine cd_q160_55 ?_
  simp only [cd_zwI, cd_zwL, cd_zI, cd_zJ, cd_zcp, true_and, if_true, cd_zk_100, cd_zR_100_26, cd_zk_114, cd_zn_114]
  exact h
set_option maxRecDepth 1000000 in
set_option maxHeartbeats 8000000 in
theorem cd_s161_0 {L : Nat} {w : Bool} {I : Nat → Nat → Int32} {J : Nat → Nat → Int64} {r : cd_Ret} (h : ((cd_ci (cd_c 157 [.ref 100, .int 0, .int 63] (cd_mm L w I J))).bind fun q => cd_go 161 9 [.ref 100, .int ((5 : Int32) * (I 100 27)), .null, .null] [.int q.1] q.2) = some r) : cd_go 161 0 [.ref 100, .null, .null, .null] [] (cd_mm L w I J) = some r := by
  refine cd_q161_0 ?_
  simp only [cd_zwI, cd_zwL, cd_zI, cd_zJ, cd_zcp, true_and, if_true, cd_zk_100]
  exact h
set_option maxRecDepth 1000000 in
set_option maxHeartbeats 8000000 in
theorem cd_s161_9 {x1 : Int32} {s0 : Int32} {L : Nat} {w : Bool} {I : Nat → Nat → Int32} {J : Nat → Nat → Int64} {r : cd_Ret} (h : (if cd_in x1 15 = true then (cd_go 161 18 [.ref 100, .int x1, .int s0, .int 1] [] (cd_mm L w (cd_up I 115 x1.toNatClampNeg (I 100 23)) J)) else none) = some r) : cd_go 161 9 [.ref 100, .int x1, .null, .null] [.int s0] (cd_mm L w I J) = some r := by
  refine cd_q161_9 ?_
  simp only [cd_zwI, cd_zwL, cd_zI, cd_zJ, cd_zcp, true_and, if_true, cd_zk_100, cd_zR_100_28, cd_zk_115, cd_zn_115]
  exact h
set_option maxRecDepth 1000000 in
set_option maxHeartbeats 8000000 in
theorem cd_s161_18 {x1 : Int32} {x2 : Int32} {x3 : Int32} {L : Nat} {w : Bool} {I : Nat → Nat → Int32} {J : Nat → Nat → Int64} {r : cd_Ret} (h : (if x3 < 3 then (if x2 = 0 then ((cd_ci (cd_c 157 [.ref 100, .int 1, .int 8] (cd_mm L w I J))).bind fun q => cd_go 161 27 [.ref 100, .int x1, .int x2, .int x3] [.int q.1] q.2) else cd_go 161 38 [.ref 100, .int x1, .int x2, .int x3] [] (cd_mm L w I J)) else cd_go 161 38 [.ref 100, .int x1, .int x2, .int x3] [] (cd_mm L w I J)) = some r) : cd_go 161 18 [.ref 100, .int x1, .int x2, .int x3] [] (cd_mm L w I J) = some r := by
  refine cd_q161_18 ?_
  simp only [cd_zwI, cd_zwL, cd_zI, cd_zJ, cd_zcp, true_and, if_true, cd_zk_100]
  exact h
set_option maxRecDepth 1000000 in
set_option maxHeartbeats 8000000 in
theorem cd_s161_27 {x1 : Int32} {x2 : Int32} {x3 : Int32} {s0 : Int32} {L : Nat} {w : Bool} {I : Nat → Nat → Int32} {J : Nat → Nat → Int64} {r : cd_Ret} (h : (if cd_in (x1 + x3) 15 = true then (cd_go 161 18 [.ref 100, .int x1, .int s0, .int (x3 + 1)] [] (cd_mm L w (cd_up I 115 (x1 + x3).toNatClampNeg (I 100 23)) J)) else none) = some r) : cd_go 161 27 [.ref 100, .int x1, .int x2, .int x3] [.int s0] (cd_mm L w I J) = some r := by
  refine cd_q161_27 ?_
  simp only [cd_zwI, cd_zwL, cd_zI, cd_zJ, cd_zcp, true_and, if_true, cd_zk_100, cd_zR_100_28, cd_zk_115, cd_zn_115]
  exact h
set_option maxRecDepth 1000000 in
set_option maxHeartbeats 8000000 in
theorem cd_s161_38 {x1 : Int32} {x2 : Int32} {x3 : Int32} {L : Nat} {w : Bool} {I : Nat → Nat → Int32} {J : Nat → Nat → Int64} {r : cd_Ret} (h : (if x2 = 0 then (if cd_in x1 15 = true then (if cd_in (x1 + 1) 15 = true then (if 8 < (((I 115 x1.toNatClampNeg) / 8) + (I 115 (x1 + 1).toNatClampNeg)) then ((cd_ci (cd_c 153 [.ref 100, .int 5, .int (I 100 24)] (cd_mm L w I J))).bind fun q => cd_go 161 75 [.ref 100, .int x1, .int x2, .int x3] [.int q.1] q.2) else if cd_in x1 15 = true then (if cd_in (x1 + 2) 15 = true then (if 8 < (((I 115 x1.toNatClampNeg) - (I 115 x1.toNatClampNeg) / 8 * 8) + (I 115 (x1 + 2).toNatClampNeg)) then ((cd_ci (cd_c 153 [.ref 100, .int 5, .int (I 100 24)] (cd_mm L w I J))).bind fun q => cd_go 161 75 [.ref 100, .int x1, .int x2, .int x3] [.int q.1] q.2) else cd_go 161 78 [.ref 100, .int x1, .int x2, .int 3] [] (cd_mm L w I J)) else none) else none) else none) else none) else cd_go 161 78 [.ref 100, .int x1, .int x2, .int 3] [] (cd_mm L w I J)) = some r) : cd_go 161 38 [.ref 100, .int x1, .int x2, .int x3] [] (cd_mm L w I J) = some r := by
  refine cd_q161_38 ?_
  simp only [cd_zwI, cd_zwL, cd_zI, cd_zJ, cd_zcp, true_and, if_true, cd_zk_100, cd_zR_100_28, cd_zk_115, cd_zn_115]
  exact h
set_option maxRecDepth 1000000 in
set_option maxHeartbeats 8000000 in
theorem cd_s161_75 {x1 : Int32} {x2 : Int32} {x3 : Int32} {s0 : Int32} {L : Nat} {w : Bool} {I : Nat → Nat → Int32} {J : Nat → Nat → Int64} {r : cd_Ret} (h : (cd_go 161 78 [.ref 100, .int x1, .int s0, .int 3] [] (cd_mm L w I J)) = some r) : cd_go 161 75 [.ref 100, .int x1, .int x2, .int x3] [.int s0] (cd_mm L w I J) = some r := cd_q161_75 h
set_option maxRecDepth 1000000 in
set_option maxHeartbeats 8000000 in
theorem cd_s161_78 {x1 : Int32} {x2 : Int32} {x3 : Int32} {L : Nat} {w : Bool} {I : Nat → Nat → Int32} {J : Nat → Nat → Int64} {r : cd_Ret} (h : (if x3 < 5 then (if x2 = 0 then ((cd_ci (cd_c 157 [.ref 100, .int 1, .int 9] (cd_mm L w I J))).bind fun q => cd_go 161 87 [.ref 100, .int x1, .int x2, .int x3] [.int q.1] q.2) else some (some (.int x2), (cd_mm L w (cd_up I 100 27 ((I 100 27) + 1)) J))) else some (some (.int x2), (cd_mm L w (cd_up I 100 27 ((I 100 27) + 1)) J))) = some r) : cd_go 161 78 [.ref 100, .int x1, .int x2, .int x3] [] (cd_mm L w I J) = some r := by
  refine cd_q161_78 ?_
  simp only [cd_zwI, cd_zwL, cd_zI, cd_zJ, cd_zcp, true_and, if_true, cd_zk_100]
  exact h
set_option maxRecDepth 1000000 in
set_option maxHeartbeats 8000000 in
theorem cd_s161_87 {x1 : Int32} {x2 : Int32} {x3 : Int32} {s0 : Int32} {L : Nat} {w : Bool} {I : Nat → Nat → Int32} {J : Nat → Nat → Int64} {r : cd_Ret} (h : (if cd_in (x1 + x3) 15 = true then (cd_go 161 78 [.ref 100, .int x1, .int s0, .int (x3 + 1)] [] (cd_mm L w (cd_up I 115 (x1 + x3).toNatClampNeg (I 100 23)) J)) else none) = some r) : cd_go 161 87 [.ref 100, .int x1, .int x2, .int x3] [.int s0] (cd_mm L w I J) = some r := by
  refine cd_q161_87 ?_
  simp only [cd_zwI, cd_zwL, cd_zI, cd_zJ, cd_zcp, true_and, if_true, cd_zk_100, cd_zR_100_28, cd_zk_115, cd_zn_115]
  exact h
set_option maxRecDepth 1000000 in
set_option maxHeartbeats 8000000 in
theorem cd_s162_0 {x1 : Int32} {x2 : Int32} {L : Nat} {w : Bool} {I : Nat → Nat → Int32} {J : Nat → Nat → Int64} {r : cd_Ret} (h : (cd_go 162 4 [.ref 100, .int x1, .int x2, .int 0, .int 0] [] (cd_mm L w I J)) = some r) : cd_go 162 0 [.ref 100, .int x1, .int x2, .null, .null] [] (cd_mm L w I J) = some r := cd_q162_0 h
set_option maxRecDepth 1000000 in
set_option maxHeartbeats 8000000 in
theorem cd_s162_4 {x1 : Int32} {x2 : Int32} {x3 : Int32} {x4 : Int32} {L : Nat} {w : Bool} {I : Nat → Nat → Int32} {J : Nat → Nat → Int64} {r : cd_Ret} (h : (if x4 < (I 100 29) then (if x3 = 0 then (if cd_in ((4 : Int32) * x4) 48 = true then (if (I 116 ((4 : Int32) * x4).toNatClampNeg) = x1 then (if cd_in (((4 : Int32) * x4) + 1) 48 = true then (if (I 116 (((4 : Int32) * x4) + 1).toNatClampNeg) = x2 then (cd_go 162 4 [.ref 100, .int x1, .int x2, .int 1, .int (x4 + 1)] [] (cd_mm L w I J)) else cd_go 162 4 [.ref 100, .int x1, .int x2, .int 0, .int (x4 + 1)] [] (cd_mm L w I J)) else none) else cd_go 162 4 [.ref 100, .int x1, .int x2, .int 0, .int (x4 + 1)] [] (cd_mm L w I J)) else none) else cd_go 162 4 [.ref 100, .int x1, .int x2, .int 1, .int (x4 + 1)] [] (cd_mm L w I J)) else if x3 &&& 1 = x3 then some (some (.int x3), (cd_mm L w I J)) else none) = some r) : cd_go 162 4 [.ref 100, .int x1, .int x2, .int x3, .int x4] [] (cd_mm L w I J) = some r := by
  refine cd_q162_4 ?_
  simp only [cd_zwI, cd_zwL, cd_zI, cd_zJ, cd_zcp, true_and, if_true, cd_zk_100, cd_zR_100_30, cd_zk_116, cd_zn_116]
  exact h
set_option maxRecDepth 1000000 in
set_option maxHeartbeats 8000000 in
theorem cd_s163_0 {L : Nat} {w : Bool} {I : Nat → Nat → Int32} {J : Nat → Nat → Int64} {r : cd_Ret} (h : ((cd_cl (cd_c 155 [.int 108, .int 97, .int 105, .int 100] (cd_mm L w I J))).bind fun q => cd_go 163 7 [.ref 100, .null, .null] [.long q.1, .long (J 100 21)] q.2) = some r) : cd_go 163 0 [.ref 100, .null, .null] [] (cd_mm L w I J) = some r := by
  refine cd_q163_0 ?_
  simp only [cd_zwI, cd_zwL, cd_zI, cd_zJ, cd_zcp, true_and, if_true, cd_zk_100]
  exact h
set_option maxRecDepth 1000000 in
set_option maxHeartbeats 8000000 in
theorem cd_s163_7 {t0 : Int64} {t1 : Int64} {L : Nat} {w : Bool} {I : Nat → Nat → Int32} {J : Nat → Nat → Int64} {r : cd_Ret} (h : (if (lg_cmp t0 t1) = 0 then ((cd_cl (cd_c 155 [.int 116, .int 105, .int 101, .int 100] (cd_mm L w I J))).bind fun q => cd_go 163 38 [.ref 100, .int 0, .null] [.long q.1, .long (J 100 21)] q.2) else if (lg_cmp (J 100 21) 11806) = 0 then ((cd_cl (cd_c 155 [.int 116, .int 105, .int 101, .int 100] (cd_mm L w I J))).bind fun q => cd_go 163 38 [.ref 100, .int 1, .null] [.long q.1, .long (J 100 21)] q.2) else (cd_cl (cd_c 155 [.int 98, .int 111, .int 111, .int 107] (cd_mm L w I J))).bind fun q => cd_go 163 25 [.ref 100, .null, .null] [.long q.1, .long (J 100 21)] q.2) = some r) : cd_go 163 7 [.ref 100, .null, .null] [.long t1, .long t0] (cd_mm L w I J) = some r := by
  refine cd_q163_7 ?_
  simp only [cd_zwI, cd_zwL, cd_zI, cd_zJ, cd_zcp, true_and, if_true, cd_zk_100]
  exact h
set_option maxRecDepth 1000000 in
set_option maxHeartbeats 8000000 in
theorem cd_s163_25 {t0 : Int64} {t1 : Int64} {L : Nat} {w : Bool} {I : Nat → Nat → Int32} {J : Nat → Nat → Int64} {r : cd_Ret} (h : (if (lg_cmp t0 t1) = 0 then ((cd_cl (cd_c 155 [.int 116, .int 105, .int 101, .int 100] (cd_mm L w I J))).bind fun q => cd_go 163 38 [.ref 100, .int 2, .null] [.long q.1, .long (J 100 21)] q.2) else (cd_cl (cd_c 155 [.int 116, .int 105, .int 101, .int 100] (cd_mm L w I J))).bind fun q => cd_go 163 38 [.ref 100, .int (-1), .null] [.long q.1, .long (J 100 21)] q.2) = some r) : cd_go 163 25 [.ref 100, .null, .null] [.long t1, .long t0] (cd_mm L w I J) = some r := by
  refine cd_q163_25 ?_
  simp only [cd_zwI, cd_zwL, cd_zI, cd_zJ, cd_zcp, true_and, if_true, cd_zk_100]
  exact h
set_option maxRecDepth 1000000 in
set_option maxHeartbeats 8000000 in
theorem cd_s163_38 {x1 : Int32} {t0 : Int64} {t1 : Int64} {L : Nat} {w : Bool} {I : Nat → Nat → Int32} {J : Nat → Nat → Int64} {r : cd_Ret} (h : (if (lg_cmp t0 t1) = 0 then (if x1 < 0 then (some (some (.int 3), (cd_mm L w I J))) else some (some (.int x1), (cd_mm L w I J))) else (cd_cl (cd_c 155 [.int 116, .int 114, .int 97, .int 112] (cd_mm L w I J))).bind fun q => cd_go 163 49 [.ref 100, .int x1, .null] [.long q.1, .long (J 100 21)] q.2) = some r) : cd_go 163 38 [.ref 100, .int x1, .null] [.long t1, .long t0] (cd_mm L w I J) = some r := by
  refine cd_q163_38 ?_
  simp only [cd_zwI, cd_zwL, cd_zI, cd_zJ, cd_zcp, true_and, if_true, cd_zk_100]
  exact h
set_option maxRecDepth 1000000 in
set_option maxHeartbeats 8000000 in
theorem cd_s163_49 {x1 : Int32} {t0 : Int64} {t1 : Int64} {L : Nat} {w : Bool} {I : Nat → Nat → Int32} {J : Nat → Nat → Int64} {r : cd_Ret} (h : ((cd_cl (cd_c 156 [.long t1, .int 112] (cd_mm L w I J))).bind fun q => cd_go 163 51 [.ref 100, .int x1, .null] [.long q.1, .long t0] q.2) = some r) : cd_go 163 49 [.ref 100, .int x1, .null] [.long t1, .long t0] (cd_mm L w I J) = some r := cd_q163_49 h
set_option maxRecDepth 1000000 in
set_option maxHeartbeats 8000000 in
theorem cd_s163_51 {x1 : Int32} {t0 : Int64} {t1 : Int64} {L : Nat} {w : Bool} {I : Nat → Nat → Int32} {J : Nat → Nat → Int64} {r : cd_Ret} (h : ((cd_cl (cd_c 156 [.long t1, .int 101] (cd_mm L w I J))).bind fun q => cd_go 163 53 [.ref 100, .int x1, .null] [.long q.1, .long t0] q.2) = some r) : cd_go 163 51 [.ref 100, .int x1, .null] [.long t1, .long t0] (cd_mm L w I J) = some r := cd_q163_51 h
set_option maxRecDepth 1000000 in
set_option maxHeartbeats 8000000 in
theorem cd_s163_53 {x1 : Int32} {t0 : Int64} {t1 : Int64} {L : Nat} {w : Bool} {I : Nat → Nat → Int32} {J : Nat → Nat → Int64} {r : cd_Ret} (h : ((cd_cl (cd_c 156 [.long t1, .int 100] (cd_mm L w I J))).bind fun q => cd_go 163 55 [.ref 100, .int x1, .null] [.long q.1, .long t0] q.2) = some r) : cd_go 163 53 [.ref 100, .int x1, .null] [.long t1, .long t0] (cd_mm L w I J) = some r := cd_q163_53 h
set_option maxRecDepth 1000000 in
set_option maxHeartbeats 8000000 in
theorem cd_s163_55 {x1 : Int32} {t0 : Int64} {t1 : Int64} {L : Nat} {w : Bool} {I : Nat → Nat → Int32} {J : Nat → Nat → Int64} {r : cd_Ret} (h : (if (lg_cmp t0 t1) = 0 then (if x1 < 0 then (some (some (.int 4), (cd_mm L w I J))) else some (some (.int x1), (cd_mm L w I J))) else if x1 < 0 then (some (some (.int (-1)), (cd_mm L w I J))) else some (some (.int x1), (cd_mm L w I J))) = some r) : cd_go 163 55 [.ref 100, .int x1, .null] [.long t1, .long t0] (cd_mm L w I J) = some r := cd_q163_55 h
set_option maxRecDepth 1000000 in
set_option maxHeartbeats 8000000 in
theorem cd_s164_0 {L : Nat} {w : Bool} {I : Nat → Nat → Int32} {J : Nat → Nat → Int64} {r : cd_Ret} (h : ((cd_ci (cd_c 157 [.ref 100, .int 0, .int ((I 100 27) - 1)] (cd_mm L w I J))).bind fun q => cd_go 164 12 [.ref 100, .int ((4 : Int32) * (I 100 29)), .null, .null, .null, .null] [.int q.1] q.2) = some r) : cd_go 164 0 [.ref 100, .null, .null, .null, .null, .null] [] (cd_mm L w I J) = some r := by
  refine cd_q164_0 ?_
  simp only [cd_zwI, cd_zwL, cd_zI, cd_zJ, cd_zcp, true_and, if_true, cd_zk_100]
  exact h
set_option maxRecDepth 1000000 in
set_option maxHeartbeats 8000000 in
theorem cd_s164_12 {x1 : Int32} {s0 : Int32} {L : Nat} {w : Bool} {I : Nat → Nat → Int32} {J : Nat → Nat → Int64} {r : cd_Ret} (h : (if 0 < s0 then (cd_go 164 27 [.ref 100, .int x1, .int s0, .int (I 100 23), .null, .null] [.int s0] (cd_mm L w I J)) else (cd_ci (cd_c 157 [.ref 100, .int 0, .int ((I 100 25) - 1)] (cd_mm L w I J))).bind fun q => cd_go 164 27 [.ref 100, .int x1, .int s0, .int (I 100 23), .null, .null] [.int q.1] q.2) = some r) : cd_go 164 12 [.ref 100, .int x1, .null, .null, .null, .null] [.int s0] (cd_mm L w I J) = some r := by
  refine cd_q164_12 ?_
  simp only [cd_zwI, cd_zwL, cd_zI, cd_zJ, cd_zcp, true_and, if_true, cd_zk_100]
  exact h
set_option maxRecDepth 1000000 in
set_option maxHeartbeats 8000000 in
theorem cd_s164_27 {x1 : Int32} {x2 : Int32} {x3 : Int32} {s0 : Int32} {L : Nat} {w : Bool} {I : Nat → Nat → Int32} {J : Nat → Nat → Int64} {r : cd_Ret} (h : (if 0 < s0 then (some (some (.int s0), (cd_mm L w I J))) else (cd_ci (cd_c 162 [.ref 100, .int x3, .int (I 100 23)] (cd_mm L w I J))).bind fun q => cd_go 164 39 [.ref 100, .int x1, .int s0, .int x3, .int (I 100 23), .null] [.int q.1] q.2) = some r) : cd_go 164 27 [.ref 100, .int x1, .int x2, .int x3, .null, .null] [.int s0] (cd_mm L w I J) = some r := by
  refine cd_q164_27 ?_
  simp only [cd_zwI, cd_zwL, cd_zI, cd_zJ, cd_zcp, true_and, if_true, cd_zk_100]
  exact h
set_option maxRecDepth 1000000 in
set_option maxHeartbeats 8000000 in
theorem cd_s164_39 {x1 : Int32} {x2 : Int32} {x3 : Int32} {x4 : Int32} {s0 : Int32} {L : Nat} {w : Bool} {I : Nat → Nat → Int32} {J : Nat → Nat → Int64} {r : cd_Ret} (h : (if s0 = 0 then ((cd_ci (cd_c 139 [.int (I 100 34), .int x4] (cd_mm L w I J))).bind fun q => cd_go 164 44 [.ref 100, .int x1, .int x2, .int x3, .int x4, .null] [.int q.1] q.2) else (cd_ci (cd_c 153 [.ref 100, .int 3, .int (I 100 24)] (cd_mm L w I J))).bind fun q => cd_go 164 61 [.ref 100, .int x1, .int x2, .int x3, .int x4, .null] [.int q.1] q.2) = some r) : cd_go 164 39 [.ref 100, .int x1, .int x2, .int x3, .int x4, .null] [.int s0] (cd_mm L w I J) = some r := by
  refine cd_q164_39 ?_
  simp only [cd_zwI, cd_zwL, cd_zI, cd_zJ, cd_zcp, true_and, if_true, cd_zk_100]
  exact h
set_option maxRecDepth 1000000 in
set_option maxHeartbeats 8000000 in
theorem cd_s164_44 {x1 : Int32} {x2 : Int32} {x3 : Int32} {x4 : Int32} {s0 : Int32} {L : Nat} {w : Bool} {I : Nat → Nat → Int32} {J : Nat → Nat → Int64} {r : cd_Ret} (h : (if s0 = 0 then (if cd_in ((5 : Int32) * x4) 40 = true then ((cd_ci (cd_c 149 [.ref 115, .int x3, .int (I 114 ((5 : Int32) * x4).toNatClampNeg)] (cd_mm L w I J))).bind fun q => cd_go 164 55 [.ref 100, .int x1, .int x2, .int x3, .int x4, .null] [.int q.1] q.2) else none) else (cd_ci (cd_c 153 [.ref 100, .int 3, .int (I 100 24)] (cd_mm L w I J))).bind fun q => cd_go 164 61 [.ref 100, .int x1, .int x2, .int x3, .int x4, .null] [.int q.1] q.2) = some r) : cd_go 164 44 [.ref 100, .int x1, .int x2, .int x3, .int x4, .null] [.int s0] (cd_mm L w I J) = some r := by
  refine cd_q164_44 ?_
  simp only [cd_zwI, cd_zwL, cd_zI, cd_zJ, cd_zcp, true_and, if_true, cd_zk_100, cd_zR_100_28, cd_zR_100_26, cd_zk_114, cd_zn_114]
  exact h
set_option maxRecDepth 1000000 in
set_option maxHeartbeats 8000000 in
theorem cd_s164_55 {x1 : Int32} {x2 : Int32} {x3 : Int32} {x4 : Int32} {s0 : Int32} {L : Nat} {w : Bool} {I : Nat → Nat → Int32} {J : Nat → Nat → Int64} {r : cd_Ret} (h : (if s0 = 0 then ((cd_ci (cd_c 153 [.ref 100, .int 3, .int (I 100 24)] (cd_mm L w I J))).bind fun q => cd_go 164 61 [.ref 100, .int x1, .int x2, .int x3, .int x4, .null] [.int q.1] q.2) else (cd_cv (cd_c 154 [.ref 100] (cd_mm L w I J))).bind fun m => cd_go 164 64 [.ref 100, .int x1, .int x2, .int x3, .int x4, .null] [] m) = some r) : cd_go 164 55 [.ref 100, .int x1, .int x2, .int x3, .int x4, .null] [.int s0] (cd_mm L w I J) = some r := by
  refine cd_q164_55 ?_
  simp only [cd_zwI, cd_zwL, cd_zI, cd_zJ, cd_zcp, true_and, if_true, cd_zk_100]
  exact h
set_option maxRecDepth 1000000 in
set_option maxHeartbeats 8000000 in
theorem cd_s164_61 {x1 : Int32} {x2 : Int32} {x3 : Int32} {x4 : Int32} {s0 : Int32} {L : Nat} {w : Bool} {I : Nat → Nat → Int32} {J : Nat → Nat → Int64} {r : cd_Ret} (h : (some (some (.int s0), (cd_mm L w I J))) = some r) : cd_go 164 61 [.ref 100, .int x1, .int x2, .int x3, .int x4, .null] [.int s0] (cd_mm L w I J) = some r := cd_q164_61 h
set_option maxRecDepth 1000000 in
set_option maxHeartbeats 8000000 in
theorem cd_s164_64 {x1 : Int32} {x2 : Int32} {x3 : Int32} {x4 : Int32} {L : Nat} {w : Bool} {I : Nat → Nat → Int32} {J : Nat → Nat → Int64} {r : cd_Ret} (h : ((cd_ci (cd_c 163 [.ref 100] (cd_mm L w I J))).bind fun q => cd_go 164 66 [.ref 100, .int x1, .int x2, .int x3, .int x4, .null] [.int q.1] q.2) = some r) : cd_go 164 64 [.ref 100, .int x1, .int x2, .int x3, .int x4, .null] [] (cd_mm L w I J) = some r := by
  refine cd_q164_64 ?_
  simp only [cd_zwI, cd_zwL, cd_zI, cd_zJ, cd_zcp, true_and, if_true, cd_zk_100]
  exact h
set_option maxRecDepth 1000000 in
set_option maxHeartbeats 8000000 in
theorem cd_s164_66 {x1 : Int32} {x2 : Int32} {x3 : Int32} {x4 : Int32} {s0 : Int32} {L : Nat} {w : Bool} {I : Nat → Nat → Int32} {J : Nat → Nat → Int64} {r : cd_Ret} (h : (if s0 < 0 then ((cd_ci (cd_c 153 [.ref 100, .int 1, .int (I 100 20)] (cd_mm L w I J))).bind fun q => cd_go 164 74 [.ref 100, .int x1, .int x2, .int x3, .int x4, .int s0] [.int q.1] q.2) else if s0 = 2 then ((cd_ci (cd_c 157 [.ref 100, .int 1, .int 99] (cd_mm L w (cd_up I 100 20 (I 100 22)) J))).bind fun q => cd_go 164 86 [.ref 100, .int x1, .int x2, .int x3, .int x4, .int s0] [.int q.1] q.2) else if cd_in x1 48 = true then (if cd_in (x1 + 1) 48 = true then (if cd_in (x1 + 2) 48 = true then (if s0 = 2 then (if cd_in (x1 + 3) 48 = true then (some (some (.int 0), (cd_mm L w (cd_up (cd_up (cd_up (cd_up (cd_up (cd_up I 100 20 (I 100 22)) 116 x1.toNatClampNeg x3) 116 (x1 + 1).toNatClampNeg x4) 116 (x1 + 2).toNatClampNeg s0) 116 (x1 + 3).toNatClampNeg ((cd_up (cd_up (cd_up (cd_up I 100 20 (I 100 22)) 116 x1.toNatClampNeg x3) 116 (x1 + 1).toNatClampNeg x4) 116 (x1 + 2).toNatClampNeg s0) 100 23)) 100 29 (((cd_up (cd_up (cd_up (cd_up (cd_up I 100 20 (I 100 22)) 116 x1.toNatClampNeg x3) 116 (x1 + 1).toNatClampNeg x4) 116 (x1 + 2).toNatClampNeg s0) 116 (x1 + 3).toNatClampNeg ((cd_up (cd_up (cd_up (cd_up I 100 20 (I 100 22)) 116 x1.toNatClampNeg x3) 116 (x1 + 1).toNatClampNeg x4) 116 (x1 + 2).toNatClampNeg s0) 100 23)) 100 29) + 1)) J))) else none) else if cd_in (x1 + 3) 48 = true then (some (some (.int 0), (cd_mm L w (cd_up (cd_up (cd_up (cd_up (cd_up (cd_up I 100 20 (I 100 22)) 116 x1.toNatClampNeg x3) 116 (x1 + 1).toNatClampNeg x4) 116 (x1 + 2).toNatClampNeg s0) 116 (x1 + 3).toNatClampNeg 0) 100 29 (((cd_up (cd_up (cd_up (cd_up (cd_up I 100 20 (I 100 22)) 116 x1.toNatClampNeg x3) 116 (x1 + 1).toNatClampNeg x4) 116 (x1 + 2).toNatClampNeg s0) 116 (x1 + 3).toNatClampNeg 0) 100 29) + 1)) J))) else none) else none) else none) else none) = some r) : cd_go 164 66 [.ref 100, .int x1, .int x2, .int x3, .int x4, .null] [.int s0] (cd_mm L w I J) = some r := by
  refine cd_q164_66 ?_
  simp only [cd_zwI, cd_zwL, cd_zI, cd_zJ, cd_zcp, true_and, if_true, cd_zk_100, cd_zR_100_30, cd_zk_116, cd_zn_116]
  exact h
set_option maxRecDepth 1000000 in
set_option maxHeartbeats 8000000 in
theorem cd_s164_74 {x1 : Int32} {x2 : Int32} {x3 : Int32} {x4 : Int32} {x5 : Int32} {s0 : Int32} {L : Nat} {w : Bool} {I : Nat → Nat → Int32} {J : Nat → Nat → Int64} {r : cd_Ret} (h : (some (some (.int s0), (cd_mm L w I J))) = some r) : cd_go 164 74 [.ref 100, .int x1, .int x2, .int x3, .int x4, .int x5] [.int s0] (cd_mm L w I J) = some r := cd_q164_74 h
set_option maxRecDepth 1000000 in
set_option maxHeartbeats 8000000 in
theorem cd_s164_86 {x1 : Int32} {x2 : Int32} {x3 : Int32} {x4 : Int32} {x5 : Int32} {s0 : Int32} {L : Nat} {w : Bool} {I : Nat → Nat → Int32} {J : Nat → Nat → Int64} {r : cd_Ret} (h : (if cd_in x1 48 = true then (if cd_in (x1 + 1) 48 = true then (if cd_in (x1 + 2) 48 = true then (if x5 = 2 then (if cd_in (x1 + 3) 48 = true then (some (some (.int s0), (cd_mm L w (cd_up (cd_up (cd_up (cd_up (cd_up I 116 x1.toNatClampNeg x3) 116 (x1 + 1).toNatClampNeg x4) 116 (x1 + 2).toNatClampNeg x5) 116 (x1 + 3).toNatClampNeg ((cd_up (cd_up (cd_up I 116 x1.toNatClampNeg x3) 116 (x1 + 1).toNatClampNeg x4) 116 (x1 + 2).toNatClampNeg x5) 100 23)) 100 29 (((cd_up (cd_up (cd_up (cd_up I 116 x1.toNatClampNeg x3) 116 (x1 + 1).toNatClampNeg x4) 116 (x1 + 2).toNatClampNeg x5) 116 (x1 + 3).toNatClampNeg ((cd_up (cd_up (cd_up I 116 x1.toNatClampNeg x3) 116 (x1 + 1).toNatClampNeg x4) 116 (x1 + 2).toNatClampNeg x5) 100 23)) 100 29) + 1)) J))) else none) else if cd_in (x1 + 3) 48 = true then (some (some (.int s0), (cd_mm L w (cd_up (cd_up (cd_up (cd_up (cd_up I 116 x1.toNatClampNeg x3) 116 (x1 + 1).toNatClampNeg x4) 116 (x1 + 2).toNatClampNeg x5) 116 (x1 + 3).toNatClampNeg 0) 100 29 (((cd_up (cd_up (cd_up (cd_up I 116 x1.toNatClampNeg x3) 116 (x1 + 1).toNatClampNeg x4) 116 (x1 + 2).toNatClampNeg x5) 116 (x1 + 3).toNatClampNeg 0) 100 29) + 1)) J))) else none) else none) else none) else none) = some r) : cd_go 164 86 [.ref 100, .int x1, .int x2, .int x3, .int x4, .int x5] [.int s0] (cd_mm L w I J) = some r := by
  refine cd_q164_86 ?_
  simp only [cd_zwI, cd_zwL, cd_zI, cd_zJ, cd_zcp, true_and, if_true, cd_zk_100, cd_zR_100_30, cd_zk_116, cd_zn_116]
  exact h
set_option maxRecDepth 1000000 in
set_option maxHeartbeats 8000000 in
theorem cd_s165_0 {L : Nat} {w : Bool} {I : Nat → Nat → Int32} {J : Nat → Nat → Int64} {r : cd_Ret} (h : ((cd_ci (cd_c 157 [.ref 100, .int 0, .int 99] (cd_mm L w I J))).bind fun q => cd_go 165 4 [.ref 100, .null] [.int q.1] q.2) = some r) : cd_go 165 0 [.ref 100, .null] [] (cd_mm L w I J) = some r := by
  refine cd_q165_0 ?_
  simp only [cd_zwI, cd_zwL, cd_zI, cd_zJ, cd_zcp, true_and, if_true, cd_zk_100]
  exact h
set_option maxRecDepth 1000000 in
set_option maxHeartbeats 8000000 in
theorem cd_s165_4 {s0 : Int32} {L : Nat} {w : Bool} {I : Nat → Nat → Int32} {J : Nat → Nat → Int64} {r : cd_Ret} (h : (if 0 < s0 then (cd_go 165 17 [.ref 100, .int s0] [.int s0] (cd_mm L w (cd_up I 100 31 (I 100 23)) J)) else (cd_ci (cd_c 157 [.ref 100, .int 1, .int 20] (cd_mm L w (cd_up I 100 31 (I 100 23)) J))).bind fun q => cd_go 165 17 [.ref 100, .int s0] [.int q.1] q.2) = some r) : cd_go 165 4 [.ref 100, .null] [.int s0] (cd_mm L w I J) = some r := by
  refine cd_q165_4 ?_
  simp only [cd_zwI, cd_zwL, cd_zI, cd_zJ, cd_zcp, true_and, if_true, cd_zk_100]
  exact h
set_option maxRecDepth 1000000 in
set_option maxHeartbeats 8000000 in
theorem cd_s165_17 {x1 : Int32} {s0 : Int32} {L : Nat} {w : Bool} {I : Nat → Nat → Int32} {J : Nat → Nat → Int64} {r : cd_Ret} (h : (some (some (.int s0), (cd_mm L w (cd_up (cd_up I 100 32 (I 100 23)) 100 33 1) J))) = some r) : cd_go 165 17 [.ref 100, .int x1] [.int s0] (cd_mm L w I J) = some r := by
  refine cd_q165_17 ?_
  simp only [cd_zwI, cd_zwL, cd_zI, cd_zJ, cd_zcp, true_and, if_true, cd_zk_100]
  exact h
set_option maxRecDepth 1000000 in
set_option maxHeartbeats 8000000 in
theorem cd_s166_0 {L : Nat} {w : Bool} {I : Nat → Nat → Int32} {J : Nat → Nat → Int64} {r : cd_Ret} (h : ((cd_ci (cd_c 157 [.ref 100, .int 0, .int ((I 100 25) - 1)] (cd_mm L w I J))).bind fun q => cd_go 166 7 [.ref 100, .null, .null, .null] [.int q.1] q.2) = some r) : cd_go 166 0 [.ref 100, .null, .null, .null] [] (cd_mm L w I J) = some r := by
  refine cd_q166_0 ?_
  simp only [cd_zwI, cd_zwL, cd_zI, cd_zJ, cd_zcp, true_and, if_true, cd_zk_100]
  exact h
set_option maxRecDepth 1000000 in
set_option maxHeartbeats 8000000 in
theorem cd_s166_7 {s0 : Int32} {L : Nat} {w : Bool} {I : Nat → Nat → Int32} {J : Nat → Nat → Int64} {r : cd_Ret} (h : (if 0 < s0 then (some (some (.int s0), (cd_mm L w I J))) else cd_go 166 16 [.ref 100, .int s0, .int 0, .int 0] [] (cd_mm L w I J)) = some r) : cd_go 166 7 [.ref 100, .null, .null, .null] [.int s0] (cd_mm L w I J) = some r := cd_q166_7 h
set_option maxRecDepth 1000000 in
set_option maxHeartbeats 8000000 in
theorem cd_s166_16 {x1 : Int32} {x2 : Int32} {x3 : Int32} {L : Nat} {w : Bool} {I : Nat → Nat → Int32} {J : Nat → Nat → Int64} {r : cd_Ret} (h : (if x3 < (I 100 29) then (if x2 = 0 then (if cd_in (((4 : Int32) * x3) + 1) 48 = true then (if (I 116 (((4 : Int32) * x3) + 1).toNatClampNeg) = (I 100 23) then (cd_go 166 16 [.ref 100, .int x1, .int 1, .int (x3 + 1)] [] (cd_mm L w I J)) else cd_go 166 16 [.ref 100, .int x1, .int 0, .int (x3 + 1)] [] (cd_mm L w I J)) else none) else cd_go 166 16 [.ref 100, .int x1, .int 1, .int (x3 + 1)] [] (cd_mm L w I J)) else if x2 = 0 then (some (some (.int 0), (cd_mm L w (cd_up I 100 34 ((I 100 34) ||| ((1 : Int32) <<< ((I 100 23) &&& 31)))) J))) else (cd_ci (cd_c 153 [.ref 100, .int 3, .int ((cd_up I 100 34 ((I 100 34) ||| ((1 : Int32) <<< ((I 100 23) &&& 31)))) 100 24)] (cd_mm L w (cd_up I 100 34 ((I 100 34) ||| ((1 : Int32) <<< ((I 100 23) &&& 31)))) J))).bind fun q => cd_go 166 55 [.ref 100, .int x1, .int x2, .int x3] [.int q.1] q.2) = some r) : cd_go 166 16 [.ref 100, .int x1, .int x2, .int x3] [] (cd_mm L w I J) = some r := by
  refine cd_q166_16 ?_
  simp only [cd_zwI, cd_zwL, cd_zI, cd_zJ, cd_zcp, true_and, if_true, cd_zk_100, cd_zR_100_30, cd_zk_116, cd_zn_116]
  exact h
set_option maxRecDepth 1000000 in
set_option maxHeartbeats 8000000 in
theorem cd_s166_55 {x1 : Int32} {x2 : Int32} {x3 : Int32} {s0 : Int32} {L : Nat} {w : Bool} {I : Nat → Nat → Int32} {J : Nat → Nat → Int64} {r : cd_Ret} (h : (some (some (.int s0), (cd_mm L w I J))) = some r) : cd_go 166 55 [.ref 100, .int x1, .int x2, .int x3] [.int s0] (cd_mm L w I J) = some r := cd_q166_55 h
set_option maxRecDepth 1000000 in
set_option maxHeartbeats 8000000 in
theorem cd_s167_0 {L : Nat} {w : Bool} {I : Nat → Nat → Int32} {J : Nat → Nat → Int64} {r : cd_Ret} (h : ((cd_cl (cd_c 155 [.int 116, .int 104, .int 105, .int 110] (cd_mm L w I J))).bind fun q => cd_go 167 9 [.ref 100, .long 1503, .null, .null] [.long q.1, .long (J 100 21)] q.2) = some r) : cd_go 167 0 [.ref 100, .null, .null, .null] [] (cd_mm L w I J) = some r := by
  refine cd_q167_0 ?_
  simp only [cd_zwI, cd_zwL, cd_zI, cd_zJ, cd_zcp, true_and, if_true, cd_zk_100]
  exact h
set_option maxRecDepth 1000000 in
set_option maxHeartbeats 8000000 in
theorem cd_s167_9 {y1 : Int64} {t0 : Int64} {t1 : Int64} {L : Nat} {w : Bool} {I : Nat → Nat → Int32} {J : Nat → Nat → Int64} {r : cd_Ret} (h : ((cd_cl (cd_c 156 [.long t1, .int 103] (cd_mm L w I J))).bind fun q => cd_go 167 11 [.ref 100, .long y1, .null, .null] [.long q.1, .long t0] q.2) = some r) : cd_go 167 9 [.ref 100, .long y1, .null, .null] [.long t1, .long t0] (cd_mm L w I J) = some r := cd_q167_9 h
set_option maxRecDepth 1000000 in
set_option maxHeartbeats 8000000 in
theorem cd_s167_11 {y1 : Int64} {t0 : Int64} {t1 : Int64} {L : Nat} {w : Bool} {I : Nat → Nat → Int32} {J : Nat → Nat → Int64} {r : cd_Ret} (h : (if (lg_cmp t0 t1) = 0 then (some (some (.int 0), (cd_mm L w I J))) else (cd_cl (cd_c 155 [.int 99, .int 108, .int 111, .int 116] (cd_mm L w I J))).bind fun q => cd_go 167 22 [.ref 100, .long y1, .null, .null] [.long q.1, .long (J 100 21)] q.2) = some r) : cd_go 167 11 [.ref 100, .long y1, .null, .null] [.long t1, .long t0] (cd_mm L w I J) = some r := by
  refine cd_q167_11 ?_
  simp only [cd_zwI, cd_zwL, cd_zI, cd_zJ, cd_zcp, true_and, if_true, cd_zk_100]
  exact h
set_option maxRecDepth 1000000 in
set_option maxHeartbeats 8000000 in
theorem cd_s167_22 {y1 : Int64} {t0 : Int64} {t1 : Int64} {L : Nat} {w : Bool} {I : Nat → Nat → Int32} {J : Nat → Nat → Int64} {r : cd_Ret} (h : ((cd_cl (cd_c 156 [.long t1, .int 104] (cd_mm L w I J))).bind fun q => cd_go 167 24 [.ref 100, .long y1, .null, .null] [.long q.1, .long t0] q.2) = some r) : cd_go 167 22 [.ref 100, .long y1, .null, .null] [.long t1, .long t0] (cd_mm L w I J) = some r := cd_q167_22 h
set_option maxRecDepth 1000000 in
set_option maxHeartbeats 8000000 in
theorem cd_s167_24 {y1 : Int64} {t0 : Int64} {t1 : Int64} {L : Nat} {w : Bool} {I : Nat → Nat → Int32} {J : Nat → Nat → Int64} {r : cd_Ret} (h : (if (lg_cmp t0 t1) = 0 then (some (some (.int 1), (cd_mm L w I J))) else (cd_cl (cd_c 155 [.int 104, .int 111, .int 108, .int 100] (cd_mm L w I J))).bind fun q => cd_go 167 35 [.ref 100, .long y1, .null, .null] [.long q.1, .long (J 100 21)] q.2) = some r) : cd_go 167 24 [.ref 100, .long y1, .null, .null] [.long t1, .long t0] (cd_mm L w I J) = some r := by
  refine cd_q167_24 ?_
  simp only [cd_zwI, cd_zwL, cd_zI, cd_zJ, cd_zcp, true_and, if_true, cd_zk_100]
  exact h
set_option maxRecDepth 1000000 in
set_option maxHeartbeats 8000000 in
theorem cd_s167_35 {y1 : Int64} {t0 : Int64} {t1 : Int64} {L : Nat} {w : Bool} {I : Nat → Nat → Int32} {J : Nat → Nat → Int64} {r : cd_Ret} (h : (if (lg_cmp t0 t1) = 0 then (some (some (.int 2), (cd_mm L w I J))) else (cd_cl (cd_c 155 [.int 108, .int 105, .int 103, .int 104] (cd_mm L w I J))).bind fun q => cd_go 167 52 [.ref 100, .long y1, .null, .int (-1)] [.long q.1, .long (J 100 21)] q.2) = some r) : cd_go 167 35 [.ref 100, .long y1, .null, .null] [.long t1, .long t0] (cd_mm L w I J) = some r := by
  refine cd_q167_35 ?_
  simp only [cd_zwI, cd_zwL, cd_zI, cd_zJ, cd_zcp, true_and, if_true, cd_zk_100]
  exact h
set_option maxRecDepth 1000000 in
set_option maxHeartbeats 8000000 in
theorem cd_s167_52 {y1 : Int64} {x3 : Int32} {t0 : Int64} {t1 : Int64} {L : Nat} {w : Bool} {I : Nat → Nat → Int32} {J : Nat → Nat → Int64} {r : cd_Ret} (h : ((cd_cl (cd_c 156 [.long t1, .int 116] (cd_mm L w I J))).bind fun q => cd_go 167 54 [.ref 100, .long y1, .null, .int x3] [.long q.1, .long t0] q.2) = some r) : cd_go 167 52 [.ref 100, .long y1, .null, .int x3] [.long t1, .long t0] (cd_mm L w I J) = some r := cd_q167_52 h
set_option maxRecDepth 1000000 in
set_option maxHeartbeats 8000000 in
theorem cd_s167_54 {y1 : Int64} {x3 : Int32} {t0 : Int64} {t1 : Int64} {L : Nat} {w : Bool} {I : Nat → Nat → Int32} {J : Nat → Nat → Int64} {r : cd_Ret} (h : (if (lg_cmp t0 t1) = 0 then (some (some (.int 3), (cd_mm L w I J))) else if (lg_cmp (J 100 21) y1) = 0 then (some (some (.int 4), (cd_mm L w I J))) else some (some (.int (-1)), (cd_mm L w I J))) = some r) : cd_go 167 54 [.ref 100, .long y1, .null, .int x3] [.long t1, .long t0] (cd_mm L w I J) = some r := by
  refine cd_q167_54 ?_
  simp only [cd_zwI, cd_zwL, cd_zI, cd_zJ, cd_zcp, true_and, if_true, cd_zk_100]
  exact h
