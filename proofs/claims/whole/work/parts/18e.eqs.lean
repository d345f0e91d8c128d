set_option maxRecDepth 1000000 in
set_option maxHeartbeats 8000000 in
theorem cd_s168_0 {L : Nat} {w : Bool} {I : Nat → Nat → Int32} {J : Nat → Nat → Int64} {r : cd_Ret} (h : ((cd_cv (cd_c 154 [.ref 100] (cd_mm L w I J))).bind fun m => cd_go 168 2 [.ref 100, .null, .null, .null] [] m) = some r) : cd_go 168 0 [.ref 100, .null, .null, .null] [] (cd_mm L w I J) = some r := by
  refine cd_q168_0 ?_
  simp only [cd_zwI, cd_zwL, cd_zI, cd_zJ, cd_zcp, true_and, if_true, cd_zk_100]
  exact h
set_option maxRecDepth 1000000 in
set_option maxHeartbeats 8000000 in
theorem cd_s168_2 {L : Nat} {w : Bool} {I : Nat → Nat → Int32} {J : Nat → Nat → Int64} {r : cd_Ret} (h : ((cd_ci (cd_c 167 [.ref 100] (cd_mm L w I J))).bind fun q => cd_go 168 4 [.ref 100, .null, .null, .null] [.int q.1] q.2) = some r) : cd_go 168 2 [.ref 100, .null, .null, .null] [] (cd_mm L w I J) = some r := by
  refine cd_q168_2 ?_
  simp only [cd_zwI, cd_zwL, cd_zI, cd_zJ, cd_zcp, true_and, if_true, cd_zk_100]
  exact h
set_option maxRecDepth 1000000 in
set_option maxHeartbeats 8000000 in
theorem cd_s168_4 {s0 : Int32} {L : Nat} {w : Bool} {I : Nat → Nat → Int32} {J : Nat → Nat → Int64} {r : cd_Ret} (h : (if s0 = 0 then (if (I 100 25) = 8 then (if s0 < 0 then (if s0 < 0 then ((cd_ci (cd_c 153 [.ref 100, .int 1, .int (I 100 20)] (cd_mm L w I J))).bind fun q => cd_go 168 60 [.ref 100, .int s0, .int 1, .null] [.int q.1] q.2) else (cd_ci (cd_c 153 [.ref 100, .int 4, .int (I 100 20)] (cd_mm L w I J))).bind fun q => cd_go 168 60 [.ref 100, .int s0, .int 1, .null] [.int q.1] q.2) else if s0 = 3 then (if (I 100 33) = 0 then (cd_go 168 45 [.ref 100, .int s0, .int 1, .null] [] (cd_mm L w I J)) else if s0 < 0 then ((cd_ci (cd_c 153 [.ref 100, .int 1, .int (I 100 20)] (cd_mm L w I J))).bind fun q => cd_go 168 60 [.ref 100, .int s0, .int 1, .null] [.int q.1] q.2) else (cd_ci (cd_c 153 [.ref 100, .int 4, .int (I 100 20)] (cd_mm L w I J))).bind fun q => cd_go 168 60 [.ref 100, .int s0, .int 1, .null] [.int q.1] q.2) else cd_go 168 45 [.ref 100, .int s0, .int 1, .null] [] (cd_mm L w I J)) else if s0 < 0 then (if s0 < 0 then ((cd_ci (cd_c 153 [.ref 100, .int 1, .int (I 100 20)] (cd_mm L w I J))).bind fun q => cd_go 168 60 [.ref 100, .int s0, .int 0, .null] [.int q.1] q.2) else (cd_ci (cd_c 153 [.ref 100, .int 3, .int (I 100 20)] (cd_mm L w I J))).bind fun q => cd_go 168 60 [.ref 100, .int s0, .int 0, .null] [.int q.1] q.2) else if s0 = 3 then (if (I 100 33) = 0 then (cd_go 168 45 [.ref 100, .int s0, .int 0, .null] [] (cd_mm L w I J)) else if s0 < 0 then ((cd_ci (cd_c 153 [.ref 100, .int 1, .int (I 100 20)] (cd_mm L w I J))).bind fun q => cd_go 168 60 [.ref 100, .int s0, .int 0, .null] [.int q.1] q.2) else (cd_ci (cd_c 153 [.ref 100, .int 3, .int (I 100 20)] (cd_mm L w I J))).bind fun q => cd_go 168 60 [.ref 100, .int s0, .int 0, .null] [.int q.1] q.2) else cd_go 168 45 [.ref 100, .int s0, .int 0, .null] [] (cd_mm L w I J)) else if s0 = 1 then (if (I 100 27) = 3 then (if s0 < 0 then (if s0 < 0 then ((cd_ci (cd_c 153 [.ref 100, .int 1, .int (I 100 20)] (cd_mm L w I J))).bind fun q => cd_go 168 60 [.ref 100, .int s0, .int 1, .null] [.int q.1] q.2) else (cd_ci (cd_c 153 [.ref 100, .int 4, .int (I 100 20)] (cd_mm L w I J))).bind fun q => cd_go 168 60 [.ref 100, .int s0, .int 1, .null] [.int q.1] q.2) else if s0 = 3 then (if (I 100 33) = 0 then (cd_go 168 45 [.ref 100, .int s0, .int 1, .null] [] (cd_mm L w I J)) else if s0 < 0 then ((cd_ci (cd_c 153 [.ref 100, .int 1, .int (I 100 20)] (cd_mm L w I J))).bind fun q => cd_go 168 60 [.ref 100, .int s0, .int 1, .null] [.int q.1] q.2) else (cd_ci (cd_c 153 [.ref 100, .int 4, .int (I 100 20)] (cd_mm L w I J))).bind fun q => cd_go 168 60 [.ref 100, .int s0, .int 1, .null] [.int q.1] q.2) else cd_go 168 45 [.ref 100, .int s0, .int 1, .null] [] (cd_mm L w I J)) else if s0 < 0 then (if s0 < 0 then ((cd_ci (cd_c 153 [.ref 100, .int 1, .int (I 100 20)] (cd_mm L w I J))).bind fun q => cd_go 168 60 [.ref 100, .int s0, .int 0, .null] [.int q.1] q.2) else (cd_ci (cd_c 153 [.ref 100, .int 3, .int (I 100 20)] (cd_mm L w I J))).bind fun q => cd_go 168 60 [.ref 100, .int s0, .int 0, .null] [.int q.1] q.2) else if s0 = 3 then (if (I 100 33) = 0 then (cd_go 168 45 [.ref 100, .int s0, .int 0, .null] [] (cd_mm L w I J)) else if s0 < 0 then ((cd_ci (cd_c 153 [.ref 100, .int 1, .int (I 100 20)] (cd_mm L w I J))).bind fun q => cd_go 168 60 [.ref 100, .int s0, .int 0, .null] [.int q.1] q.2) else (cd_ci (cd_c 153 [.ref 100, .int 3, .int (I 100 20)] (cd_mm L w I J))).bind fun q => cd_go 168 60 [.ref 100, .int s0, .int 0, .null] [.int q.1] q.2) else cd_go 168 45 [.ref 100, .int s0, .int 0, .null] [] (cd_mm L w I J)) else if s0 = 2 then (if (I 100 29) = 12 then (if s0 < 0 then (if s0 < 0 then ((cd_ci (cd_c 153 [.ref 100, .int 1, .int (I 100 20)] (cd_mm L w I J))).bind fun q => cd_go 168 60 [.ref 100, .int s0, .int 1, .null] [.int q.1] q.2) else (cd_ci (cd_c 153 [.ref 100, .int 4, .int (I 100 20)] (cd_mm L w I J))).bind fun q => cd_go 168 60 [.ref 100, .int s0, .int 1, .null] [.int q.1] q.2) else if s0 = 3 then (if (I 100 33) = 0 then (cd_go 168 45 [.ref 100, .int s0, .int 1, .null] [] (cd_mm L w I J)) else if s0 < 0 then ((cd_ci (cd_c 153 [.ref 100, .int 1, .int (I 100 20)] (cd_mm L w I J))).bind fun q => cd_go 168 60 [.ref 100, .int s0, .int 1, .null] [.int q.1] q.2) else (cd_ci (cd_c 153 [.ref 100, .int 4, .int (I 100 20)] (cd_mm L w I J))).bind fun q => cd_go 168 60 [.ref 100, .int s0, .int 1, .null] [.int q.1] q.2) else cd_go 168 45 [.ref 100, .int s0, .int 1, .null] [] (cd_mm L w I J)) else cd_go 168 35 [.ref 100, .int s0, .null, .null] [] (cd_mm L w I J)) else cd_go 168 35 [.ref 100, .int s0, .null, .null] [] (cd_mm L w I J)) = some r) : cd_go 168 4 [.ref 100, .null, .null, .null] [.int s0] (cd_mm L w I J) = some r := by
  refine cd_q168_4 ?_
  simp only [cd_zwI, cd_zwL, cd_zI, cd_zJ, cd_zcp, true_and, if_true, cd_zk_100]
  exact h
set_option maxRecDepth 1000000 in
set_option maxHeartbeats 8000000 in
theorem cd_s168_35 {x1 : Int32} {L : Nat} {w : Bool} {I : Nat → Nat → Int32} {J : Nat → Nat → Int64} {r : cd_Ret} (h : (if x1 < 0 then (if x1 < 0 then ((cd_ci (cd_c 153 [.ref 100, .int 1, .int (I 100 20)] (cd_mm L w I J))).bind fun q => cd_go 168 60 [.ref 100, .int x1, .int 0, .null] [.int q.1] q.2) else (cd_ci (cd_c 153 [.ref 100, .int 3, .int (I 100 20)] (cd_mm L w I J))).bind fun q => cd_go 168 60 [.ref 100, .int x1, .int 0, .null] [.int q.1] q.2) else if x1 = 3 then (if (I 100 33) = 0 then (cd_go 168 45 [.ref 100, .int x1, .int 0, .null] [] (cd_mm L w I J)) else if x1 < 0 then ((cd_ci (cd_c 153 [.ref 100, .int 1, .int (I 100 20)] (cd_mm L w I J))).bind fun q => cd_go 168 60 [.ref 100, .int x1, .int 0, .null] [.int q.1] q.2) else (cd_ci (cd_c 153 [.ref 100, .int 3, .int (I 100 20)] (cd_mm L w I J))).bind fun q => cd_go 168 60 [.ref 100, .int x1, .int 0, .null] [.int q.1] q.2) else cd_go 168 45 [.ref 100, .int x1, .int 0, .null] [] (cd_mm L w I J)) = some r) : cd_go 168 35 [.ref 100, .int x1, .null, .null] [] (cd_mm L w I J) = some r := by
  refine cd_q168_35 ?_
  simp only [cd_zwI, cd_zwL, cd_zI, cd_zJ, cd_zcp, true_and, if_true, cd_zk_100]
  exact h
set_option maxRecDepth 1000000 in
set_option maxHeartbeats 8000000 in
theorem cd_s168_45 {x1 : Int32} {x2 : Int32} {L : Nat} {w : Bool} {I : Nat → Nat → Int32} {J : Nat → Nat → Int64} {r : cd_Ret} (h : (if x2 = 0 then (if x1 = 0 then ((cd_ci (cd_c 160 [.ref 100] (cd_mm L w (cd_up I 100 20 (I 100 22)) J))).bind fun q => cd_go 168 69 [.ref 100, .int x1, .int x2, .null] [.int q.1] q.2) else if x1 = 1 then ((cd_ci (cd_c 161 [.ref 100] (cd_mm L w (cd_up I 100 20 (I 100 22)) J))).bind fun q => cd_go 168 75 [.ref 100, .int x1, .int x2, .null] [.int q.1] q.2) else if x1 = 2 then ((cd_ci (cd_c 164 [.ref 100] (cd_mm L w (cd_up I 100 20 (I 100 22)) J))).bind fun q => cd_go 168 81 [.ref 100, .int x1, .int x2, .null] [.int q.1] q.2) else if x1 = 3 then ((cd_ci (cd_c 165 [.ref 100] (cd_mm L w (cd_up I 100 20 (I 100 22)) J))).bind fun q => cd_go 168 87 [.ref 100, .int x1, .int x2, .null] [.int q.1] q.2) else (cd_ci (cd_c 166 [.ref 100] (cd_mm L w (cd_up I 100 20 (I 100 22)) J))).bind fun q => cd_go 168 90 [.ref 100, .int x1, .int x2, .null] [.int q.1] q.2) else if x1 < 0 then ((cd_ci (cd_c 153 [.ref 100, .int 1, .int (I 100 20)] (cd_mm L w I J))).bind fun q => cd_go 168 60 [.ref 100, .int x1, .int x2, .null] [.int q.1] q.2) else if x2 = 0 then ((cd_ci (cd_c 153 [.ref 100, .int 3, .int (I 100 20)] (cd_mm L w I J))).bind fun q => cd_go 168 60 [.ref 100, .int x1, .int x2, .null] [.int q.1] q.2) else (cd_ci (cd_c 153 [.ref 100, .int 4, .int (I 100 20)] (cd_mm L w I J))).bind fun q => cd_go 168 60 [.ref 100, .int x1, .int x2, .null] [.int q.1] q.2) = some r) : cd_go 168 45 [.ref 100, .int x1, .int x2, .null] [] (cd_mm L w I J) = some r := by
  refine cd_q168_45 ?_
  simp only [cd_zwI, cd_zwL, cd_zI, cd_zJ, cd_zcp, true_and, if_true, cd_zk_100]
  exact h
set_option maxRecDepth 1000000 in
set_option maxHeartbeats 8000000 in
theorem cd_s168_60 {x1 : Int32} {x2 : Int32} {s0 : Int32} {L : Nat} {w : Bool} {I : Nat → Nat → Int32} {J : Nat → Nat → Int64} {r : cd_Ret} (h : (some (some (.int s0), (cd_mm L w I J))) = some r) : cd_go 168 60 [.ref 100, .int x1, .int x2, .null] [.int s0] (cd_mm L w I J) = some r := cd_q168_60 h
set_option maxRecDepth 1000000 in
set_option maxHeartbeats 8000000 in
theorem cd_s168_69 {x1 : Int32} {x2 : Int32} {s0 : Int32} {L : Nat} {w : Bool} {I : Nat → Nat → Int32} {J : Nat → Nat → Int64} {r : cd_Ret} (h : (cd_go 168 90 [.ref 100, .int x1, .int x2, .null] [.int s0] (cd_mm L w I J)) = some r) : cd_go 168 69 [.ref 100, .int x1, .int x2, .null] [.int s0] (cd_mm L w I J) = some r := cd_q168_69 h
set_option maxRecDepth 1000000 in
set_option maxHeartbeats 8000000 in
theorem cd_s168_75 {x1 : Int32} {x2 : Int32} {s0 : Int32} {L : Nat} {w : Bool} {I : Nat → Nat → Int32} {J : Nat → Nat → Int64} {r : cd_Ret} (h : (cd_go 168 90 [.ref 100, .int x1, .int x2, .null] [.int s0] (cd_mm L w I J)) = some r) : cd_go 168 75 [.ref 100, .int x1, .int x2, .null] [.int s0] (cd_mm L w I J) = some r := cd_q168_75 h
set_option maxRecDepth 1000000 in
set_option maxHeartbeats 8000000 in
theorem cd_s168_81 {x1 : Int32} {x2 : Int32} {s0 : Int32} {L : Nat} {w : Bool} {I : Nat → Nat → Int32} {J : Nat → Nat → Int64} {r : cd_Ret} (h : (cd_go 168 90 [.ref 100, .int x1, .int x2, .null] [.int s0] (cd_mm L w I J)) = some r) : cd_go 168 81 [.ref 100, .int x1, .int x2, .null] [.int s0] (cd_mm L w I J) = some r := cd_q168_81 h
set_option maxRecDepth 1000000 in
set_option maxHeartbeats 8000000 in
theorem cd_s168_87 {x1 : Int32} {x2 : Int32} {s0 : Int32} {L : Nat} {w : Bool} {I : Nat → Nat → Int32} {J : Nat → Nat → Int64} {r : cd_Ret} (h : (cd_go 168 90 [.ref 100, .int x1, .int x2, .null] [.int s0] (cd_mm L w I J)) = some r) : cd_go 168 87 [.ref 100, .int x1, .int x2, .null] [.int s0] (cd_mm L w I J) = some r := cd_q168_87 h
set_option maxRecDepth 1000000 in
set_option maxHeartbeats 8000000 in
theorem cd_s168_90 {x1 : Int32} {x2 : Int32} {s0 : Int32} {L : Nat} {w : Bool} {I : Nat → Nat → Int32} {J : Nat → Nat → Int64} {r : cd_Ret} (h : (if 0 < s0 then (cd_go 168 97 [.ref 100, .int x1, .int x2, .int s0] [.int s0] (cd_mm L w I J)) else (cd_ci (cd_c 158 [.ref 100] (cd_mm L w I J))).bind fun q => cd_go 168 97 [.ref 100, .int x1, .int x2, .int s0] [.int q.1] q.2) = some r) : cd_go 168 90 [.ref 100, .int x1, .int x2, .null] [.int s0] (cd_mm L w I J) = some r := by
  refine cd_q168_90 ?_
  simp only [cd_zwI, cd_zwL, cd_zI, cd_zJ, cd_zcp, true_and, if_true, cd_zk_100]
  exact h
set_option maxRecDepth 1000000 in
set_option maxHeartbeats 8000000 in
theorem cd_s168_97 {x1 : Int32} {x2 : Int32} {x3 : Int32} {s0 : Int32} {L : Nat} {w : Bool} {I : Nat → Nat → Int32} {J : Nat → Nat → Int64} {r : cd_Ret} (h : (some (some (.int s0), (cd_mm L w I J))) = some r) : cd_go 168 97 [.ref 100, .int x1, .int x2, .int x3] [.int s0] (cd_mm L w I J) = some r := cd_q168_97 h
set_option maxRecDepth 1000000 in
set_option maxHeartbeats 8000000 in
theorem cd_s169_0 {L : Nat} {w : Bool} {I : Nat → Nat → Int32} {J : Nat → Nat → Int64} {r : cd_Ret} (h : (cd_go 169 22 [.ref 100, .int 0] [] (cd_mm L w (cd_up (cd_up (cd_up (cd_up (cd_up I 100 0 (I 100 25)) 100 7 ((cd_up I 100 0 (I 100 25)) 100 27)) 100 9 ((cd_up (cd_up I 100 0 (I 100 25)) 100 7 ((cd_up I 100 0 (I 100 25)) 100 27)) 100 29)) 100 15 ((cd_up (cd_up (cd_up I 100 0 (I 100 25)) 100 7 ((cd_up I 100 0 (I 100 25)) 100 27)) 100 9 ((cd_up (cd_up I 100 0 (I 100 25)) 100 7 ((cd_up I 100 0 (I 100 25)) 100 27)) 100 29)) 100 31)) 100 16 ((cd_up (cd_up (cd_up (cd_up I 100 0 (I 100 25)) 100 7 ((cd_up I 100 0 (I 100 25)) 100 27)) 100 9 ((cd_up (cd_up I 100 0 (I 100 25)) 100 7 ((cd_up I 100 0 (I 100 25)) 100 27)) 100 29)) 100 15 ((cd_up (cd_up (cd_up I 100 0 (I 100 25)) 100 7 ((cd_up I 100 0 (I 100 25)) 100 27)) 100 9 ((cd_up (cd_up I 100 0 (I 100 25)) 100 7 ((cd_up I 100 0 (I 100 25)) 100 27)) 100 29)) 100 31)) 100 32)) J)) = some r) : cd_go 169 0 [.ref 100, .null] [] (cd_mm L w I J) = some r := by
  refine cd_q169_0 ?_
  simp only [cd_zwI, cd_zwL, cd_zI, cd_zJ, cd_zcp, true_and, if_true, cd_zk_100]
  exact h
set_option maxRecDepth 1000000 in
set_option maxHeartbeats 8000000 in
theorem cd_s169_22 {x1 : Int32} {L : Nat} {w : Bool} {I : Nat → Nat → Int32} {J : Nat → Nat → Int64} {r : cd_Ret} (h : (if x1 < (I 100 0) then (if cd_in ((5 : Int32) * x1) 40 = true then (if cd_in x1 8 = true then (if cd_in (((5 : Int32) * x1) + 1) 40 = true then (if cd_in x1 8 = true then (if cd_in (((5 : Int32) * x1) + 2) 40 = true then (if cd_in x1 8 = true then (if cd_in (((5 : Int32) * x1) + 3) 40 = true then (if cd_in x1 8 = true then (if cd_in (((5 : Int32) * x1) + 4) 40 = true then (if cd_in x1 8 = true then (if cd_in x1 8 = true then (cd_go 169 22 [.ref 100, .int (x1 + 1)] [] (cd_mm L w (cd_up (cd_up (cd_up (cd_up (cd_up (cd_up I 101 x1.toNatClampNeg (I 114 ((5 : Int32) * x1).toNatClampNeg)) 102 x1.toNatClampNeg ((cd_up I 101 x1.toNatClampNeg (I 114 ((5 : Int32) * x1).toNatClampNeg)) 114 (((5 : Int32) * x1) + 1).toNatClampNeg)) 103 x1.toNatClampNeg ((cd_up (cd_up I 101 x1.toNatClampNeg (I 114 ((5 : Int32) * x1).toNatClampNeg)) 102 x1.toNatClampNeg ((cd_up I 101 x1.toNatClampNeg (I 114 ((5 : Int32) * x1).toNatClampNeg)) 114 (((5 : Int32) * x1) + 1).toNatClampNeg)) 114 (((5 : Int32) * x1) + 2).toNatClampNeg)) 104 x1.toNatClampNeg ((cd_up (cd_up (cd_up I 101 x1.toNatClampNeg (I 114 ((5 : Int32) * x1).toNatClampNeg)) 102 x1.toNatClampNeg ((cd_up I 101 x1.toNatClampNeg (I 114 ((5 : Int32) * x1).toNatClampNeg)) 114 (((5 : Int32) * x1) + 1).toNatClampNeg)) 103 x1.toNatClampNeg ((cd_up (cd_up I 101 x1.toNatClampNeg (I 114 ((5 : Int32) * x1).toNatClampNeg)) 102 x1.toNatClampNeg ((cd_up I 101 x1.toNatClampNeg (I 114 ((5 : Int32) * x1).toNatClampNeg)) 114 (((5 : Int32) * x1) + 1).toNatClampNeg)) 114 (((5 : Int32) * x1) + 2).toNatClampNeg)) 114 (((5 : Int32) * x1) + 3).toNatClampNeg)) 105 x1.toNatClampNeg ((cd_up (cd_up (cd_up (cd_up I 101 x1.toNatClampNeg (I 114 ((5 : Int32) * x1).toNatClampNeg)) 102 x1.toNatClampNeg ((cd_up I 101 x1.toNatClampNeg (I 114 ((5 : Int32) * x1).toNatClampNeg)) 114 (((5 : Int32) * x1) + 1).toNatClampNeg)) 103 x1.toNatClampNeg ((cd_up (cd_up I 101 x1.toNatClampNeg (I 114 ((5 : Int32) * x1).toNatClampNeg)) 102 x1.toNatClampNeg ((cd_up I 101 x1.toNatClampNeg (I 114 ((5 : Int32) * x1).toNatClampNeg)) 114 (((5 : Int32) * x1) + 1).toNatClampNeg)) 114 (((5 : Int32) * x1) + 2).toNatClampNeg)) 104 x1.toNatClampNeg ((cd_up (cd_up (cd_up I 101 x1.toNatClampNeg (I 114 ((5 : Int32) * x1).toNatClampNeg)) 102 x1.toNatClampNeg ((cd_up I 101 x1.toNatClampNeg (I 114 ((5 : Int32) * x1).toNatClampNeg)) 114 (((5 : Int32) * x1) + 1).toNatClampNeg)) 103 x1.toNatClampNeg ((cd_up (cd_up I 101 x1.toNatClampNeg (I 114 ((5 : Int32) * x1).toNatClampNeg)) 102 x1.toNatClampNeg ((cd_up I 101 x1.toNatClampNeg (I 114 ((5 : Int32) * x1).toNatClampNeg)) 114 (((5 : Int32) * x1) + 1).toNatClampNeg)) 114 (((5 : Int32) * x1) + 2).toNatClampNeg)) 114 (((5 : Int32) * x1) + 3).toNatClampNeg)) 114 (((5 : Int32) * x1) + 4).toNatClampNeg)) 106 x1.toNatClampNeg 0) J)) else none) else none) else none) else none) else none) else none) else none) else none) else none) else none) else none) else cd_go 169 93 [.ref 100, .int 0] [] (cd_mm L w I J)) = some r) : cd_go 169 22 [.ref 100, .int x1] [] (cd_mm L w I J) = some r := by
  refine cd_q169_22 ?_
  simp only [cd_zwI, cd_zwL, cd_zI, cd_zJ, cd_zcp, true_and, if_true, cd_zk_100, cd_zR_100_1, cd_zR_100_26, cd_zk_114, cd_zn_114, cd_zk_101, cd_zn_101, cd_zR_100_2, cd_zk_102, cd_zn_102, cd_zR_100_3, cd_zk_103, cd_zn_103, cd_zR_100_4, cd_zk_104, cd_zn_104, cd_zR_100_5, cd_zk_105, cd_zn_105, cd_zR_100_6, cd_zk_106, cd_zn_106]
  exact h
set_option maxRecDepth 1000000 in
set_option maxHeartbeats 8000000 in
theorem cd_s169_93 {x1 : Int32} {L : Nat} {w : Bool} {I : Nat → Nat → Int32} {J : Nat → Nat → Int64} {r : cd_Ret} (h : (if x1 < 15 then (if cd_in x1 15 = true then (if cd_in x1 15 = true then (cd_go 169 93 [.ref 100, .int (x1 + 1)] [] (cd_mm L w (cd_up I 107 x1.toNatClampNeg (I 115 x1.toNatClampNeg)) J)) else none) else none) else cd_go 169 108 [.ref 100, .int 0] [] (cd_mm L w I J)) = some r) : cd_go 169 93 [.ref 100, .int x1] [] (cd_mm L w I J) = some r := by
  refine cd_q169_93 ?_
  simp only [cd_zwI, cd_zwL, cd_zI, cd_zJ, cd_zcp, true_and, if_true, cd_zk_100, cd_zR_100_8, cd_zR_100_28, cd_zk_115, cd_zn_115, cd_zk_107, cd_zn_107]
  exact h
set_option maxRecDepth 1000000 in
set_option maxHeartbeats 8000000 in
theorem cd_s169_108 {x1 : Int32} {L : Nat} {w : Bool} {I : Nat → Nat → Int32} {J : Nat → Nat → Int64} {r : cd_Ret} (h : (if x1 < (I 100 9) then (if cd_in ((4 : Int32) * x1) 48 = true then (if cd_in x1 12 = true then (if cd_in (((4 : Int32) * x1) + 1) 48 = true then (if cd_in x1 12 = true then (if cd_in (((4 : Int32) * x1) + 2) 48 = true then (if cd_in x1 12 = true then (if cd_in (((4 : Int32) * x1) + 3) 48 = true then (if cd_in x1 12 = true then (if cd_in x1 12 = true then (cd_go 169 108 [.ref 100, .int (x1 + 1)] [] (cd_mm L w (cd_up (cd_up (cd_up (cd_up (cd_up I 108 x1.toNatClampNeg (I 116 ((4 : Int32) * x1).toNatClampNeg)) 109 x1.toNatClampNeg ((cd_up I 108 x1.toNatClampNeg (I 116 ((4 : Int32) * x1).toNatClampNeg)) 116 (((4 : Int32) * x1) + 1).toNatClampNeg)) 110 x1.toNatClampNeg ((cd_up (cd_up I 108 x1.toNatClampNeg (I 116 ((4 : Int32) * x1).toNatClampNeg)) 109 x1.toNatClampNeg ((cd_up I 108 x1.toNatClampNeg (I 116 ((4 : Int32) * x1).toNatClampNeg)) 116 (((4 : Int32) * x1) + 1).toNatClampNeg)) 116 (((4 : Int32) * x1) + 2).toNatClampNeg)) 111 x1.toNatClampNeg ((cd_up (cd_up (cd_up I 108 x1.toNatClampNeg (I 116 ((4 : Int32) * x1).toNatClampNeg)) 109 x1.toNatClampNeg ((cd_up I 108 x1.toNatClampNeg (I 116 ((4 : Int32) * x1).toNatClampNeg)) 116 (((4 : Int32) * x1) + 1).toNatClampNeg)) 110 x1.toNatClampNeg ((cd_up (cd_up I 108 x1.toNatClampNeg (I 116 ((4 : Int32) * x1).toNatClampNeg)) 109 x1.toNatClampNeg ((cd_up I 108 x1.toNatClampNeg (I 116 ((4 : Int32) * x1).toNatClampNeg)) 116 (((4 : Int32) * x1) + 1).toNatClampNeg)) 116 (((4 : Int32) * x1) + 2).toNatClampNeg)) 116 (((4 : Int32) * x1) + 3).toNatClampNeg)) 112 x1.toNatClampNeg 1) J)) else none) else none) else none) else none) else none) else none) else none) else none) else none) else if cd_in 0 2 = true then (if cd_in 1 2 = true then (some (none, (cd_mm L w (cd_up (cd_up (cd_up I 100 40 0) 126 (0 : Int32).toNatClampNeg 0) 126 (1 : Int32).toNatClampNeg 0) J))) else none) else none) = some r) : cd_go 169 108 [.ref 100, .int x1] [] (cd_mm L w I J) = some r := by
  refine cd_q169_108 ?_
  simp only [cd_zwI, cd_zwL, cd_zI, cd_zJ, cd_zcp, true_and, if_true, cd_zk_100, cd_zR_100_10, cd_zR_100_30, cd_zk_116, cd_zn_116, cd_zk_108, cd_zn_108, cd_zR_100_11, cd_zk_109, cd_zn_109, cd_zR_100_12, cd_zk_110, cd_zn_110, cd_zR_100_13, cd_zk_111, cd_zn_111, cd_zR_100_14, cd_zk_112, cd_zn_112, cd_zR_100_47, cd_zk_126, cd_zn_126]
  exact h
set_option maxRecDepth 1000000 in
set_option maxHeartbeats 8000000 in
theorem cd_s170_0 {L : Nat} {w : Bool} {I : Nat → Nat → Int32} {J : Nat → Nat → Int64} {r : cd_Ret} (h : (cd_go 170 29 [.ref 100, .int 0] [] (cd_mm L w (cd_up (cd_up (cd_up (cd_up (cd_up (cd_up (cd_up (cd_up (cd_up I 100 19 (-1)) 100 20 0) 100 25 0) 100 27 0) 100 29 0) 100 31 60) 100 32 10) 100 33 0) 100 34 0) J)) = some r) : cd_go 170 0 [.ref 100, .null] [] (cd_mm L w I J) = some r := by
  refine cd_q170_0 ?_
  simp only [cd_zwI, cd_zwL, cd_zI, cd_zJ, cd_zcp, true_and, if_true, cd_zk_100]
  exact h
set_option maxRecDepth 1000000 in
set_option maxHeartbeats 8000000 in
theorem cd_s170_29 {x1 : Int32} {L : Nat} {w : Bool} {I : Nat → Nat → Int32} {J : Nat → Nat → Int64} {r : cd_Ret} (h : (if x1 = 0 then ((cd_ci (cd_c 152 [.ref 100] (cd_mm L w I J))).bind fun q => cd_go 170 33 [.ref 100, .int x1] [.int q.1] q.2) else if 0 < x1 then (some (some (.int ((-10 : Int32) - x1)), (cd_mm L w (cd_up I 100 18 0) J))) else (cd_cv (cd_c 169 [.ref 100] (cd_mm L w (cd_up I 100 18 0) J))).bind fun m => cd_go 170 49 [.ref 100, .int x1] [] m) = some r) : cd_go 170 29 [.ref 100, .int x1] [] (cd_mm L w I J) = some r := by
  refine cd_q170_29 ?_
  simp only [cd_zwI, cd_zwL, cd_zI, cd_zJ, cd_zcp, true_and, if_true, cd_zk_100]
  exact h
set_option maxRecDepth 1000000 in
set_option maxHeartbeats 8000000 in
theorem cd_s170_33 {x1 : Int32} {s0 : Int32} {L : Nat} {w : Bool} {I : Nat → Nat → Int32} {J : Nat → Nat → Int64} {r : cd_Ret} (h : (if s0 < 0 then (if 0 < x1 then (some (some (.int ((-10 : Int32) - x1)), (cd_mm L w (cd_up I 100 18 0) J))) else (cd_cv (cd_c 169 [.ref 100] (cd_mm L w (cd_up I 100 18 0) J))).bind fun m => cd_go 170 49 [.ref 100, .int x1] [] m) else (cd_ci (cd_c 168 [.ref 100] (cd_mm L w I J))).bind fun q => cd_go 170 36 [.ref 100, .int x1] [.int q.1] q.2) = some r) : cd_go 170 33 [.ref 100, .int x1] [.int s0] (cd_mm L w I J) = some r := by
  refine cd_q170_33 ?_
  simp only [cd_zwI, cd_zwL, cd_zI, cd_zJ, cd_zcp, true_and, if_true, cd_zk_100]
  exact h
set_option maxRecDepth 1000000 in
set_option maxHeartbeats 8000000 in
theorem cd_s170_36 {x1 : Int32} {s0 : Int32} {L : Nat} {w : Bool} {I : Nat → Nat → Int32} {J : Nat → Nat → Int64} {r : cd_Ret} (h : (cd_go 170 29 [.ref 100, .int s0] [] (cd_mm L w I J)) = some r) : cd_go 170 36 [.ref 100, .int x1] [.int s0] (cd_mm L w I J) = some r := cd_q170_36 h
set_option maxRecDepth 1000000 in
set_option maxHeartbeats 8000000 in
theorem cd_s170_49 {x1 : Int32} {L : Nat} {w : Bool} {I : Nat → Nat → Int32} {J : Nat → Nat → Int64} {r : cd_Ret} (h : (some (some (.int (I 100 9)), (cd_mm L w I J))) = some r) : cd_go 170 49 [.ref 100, .int x1] [] (cd_mm L w I J) = some r := by
  refine cd_q170_49 ?_
  simp only [cd_zwI, cd_zwL, cd_zI, cd_zJ, cd_zcp, true_and, if_true, cd_zk_100]
  exact h
set_option maxRecDepth 1000000 in
set_option maxHeartbeats 8000000 in
theorem cd_s171_0 {L : Nat} {w : Bool} {I : Nat → Nat → Int32} {J : Nat → Nat → Int64} {r : cd_Ret} (h : (some (some (.int (I 100 19)), (cd_mm L w I J))) = some r) : cd_go 171 0 [.ref 100] [] (cd_mm L w I J) = some r := by
  refine cd_q171_0 ?_
  simp only [cd_zwI, cd_zwL, cd_zI, cd_zJ, cd_zcp, true_and, if_true, cd_zk_100]
  exact h
set_option maxRecDepth 1000000 in
set_option maxHeartbeats 8000000 in
theorem cd_s172_0 {x1 : Int32} {L : Nat} {w : Bool} {I : Nat → Nat → Int32} {J : Nat → Nat → Int64} {r : cd_Ret} (h : (if cd_in x1 8 = true then (if (I 106 x1.toNatClampNeg) = 0 then (if cd_in x1 8 = true then (some (some (.int (I 102 x1.toNatClampNeg)), (cd_mm L w I J))) else none) else some (some (.int 1), (cd_mm L w I J))) else none) = some r) : cd_go 172 0 [.ref 100, .int x1] [] (cd_mm L w I J) = some r := by
  refine cd_q172_0 ?_
  simp only [cd_zwI, cd_zwL, cd_zI, cd_zJ, cd_zcp, true_and, if_true, cd_zk_100, cd_zR_100_6, cd_zk_106, cd_zn_106, cd_zR_100_2, cd_zk_102, cd_zn_102]
  exact h
set_option maxRecDepth 1000000 in
set_option maxHeartbeats 8000000 in
theorem cd_s173_0 {x1 : Int32} {L : Nat} {w : Bool} {I : Nat → Nat → Int32} {J : Nat → Nat → Int64} {r : cd_Ret} (h : ((cd_ci (cd_c 148 [.ref 100, .int x1] (cd_mm L w I J))).bind fun q => cd_go 173 3 [.ref 100, .int x1, .null] [.int q.1] q.2) = some r) : cd_go 173 0 [.ref 100, .int x1, .null] [] (cd_mm L w I J) = some r := by
  refine cd_q173_0 ?_
  simp only [cd_zwI, cd_zwL, cd_zI, cd_zJ, cd_zcp, true_and, if_true, cd_zk_100]
  exact h
set_option maxRecDepth 1000000 in
set_option maxHeartbeats 8000000 in
theorem cd_s173_3 {x1 : Int32} {s0 : Int32} {L : Nat} {w : Bool} {I : Nat → Nat → Int32} {J : Nat → Nat → Int64} {r : cd_Ret} (h : (if s0 < 0 then (cd_go 173 11 [.ref 100, .int x1, .int s0] [.int 0] (cd_mm L w I J)) else (cd_ci (cd_c 172 [.ref 100, .int s0] (cd_mm L w I J))).bind fun q => cd_go 173 11 [.ref 100, .int x1, .int s0] [.int q.1] q.2) = some r) : cd_go 173 3 [.ref 100, .int x1, .null] [.int s0] (cd_mm L w I J) = some r := by
  refine cd_q173_3 ?_
  simp only [cd_zwI, cd_zwL, cd_zI, cd_zJ, cd_zcp, true_and, if_true, cd_zk_100]
  exact h
set_option maxRecDepth 1000000 in
set_option maxHeartbeats 8000000 in
theorem cd_s173_11 {x1 : Int32} {x2 : Int32} {s0 : Int32} {L : Nat} {w : Bool} {I : Nat → Nat → Int32} {J : Nat → Nat → Int64} {r : cd_Ret} (h : (some (some (.int s0), (cd_mm L w I J))) = some r) : cd_go 173 11 [.ref 100, .int x1, .int x2] [.int s0] (cd_mm L w I J) = some r := cd_q173_11 h
set_option maxRecDepth 1000000 in
set_option maxHeartbeats 8000000 in
theorem cd_s174_0 {x1 : Int32} {x2 : Int32} {L : Nat} {w : Bool} {I : Nat → Nat → Int32} {J : Nat → Nat → Int64} {r : cd_Ret} (h : (if cd_in x1 12 = true then ((cd_ci (cd_c 172 [.ref 100, .int (I 109 x1.toNatClampNeg)] (cd_mm L w I J))).bind fun q => cd_go 174 8 [.ref 100, .int x1, .int x2, .int (I 109 x1.toNatClampNeg)] [.int q.1] q.2) else none) = some r) : cd_go 174 0 [.ref 100, .int x1, .int x2, .null] [] (cd_mm L w I J) = some r := by
  refine cd_q174_0 ?_
  simp only [cd_zwI, cd_zwL, cd_zI, cd_zJ, cd_zcp, true_and, if_true, cd_zk_100, cd_zR_100_11, cd_zk_109, cd_zn_109]
  exact h
set_option maxRecDepth 1000000 in
set_option maxHeartbeats 8000000 in
theorem cd_s174_8 {x1 : Int32} {x2 : Int32} {x3 : Int32} {s0 : Int32} {L : Nat} {w : Bool} {I : Nat → Nat → Int32} {J : Nat → Nat → Int64} {r : cd_Ret} (h : (if cd_in x1 12 = true then (if cd_in (((5 : Int32) * (I 108 x1.toNatClampNeg)) + 4) 15 = true then (if cd_in x3 8 = true then ((cd_ci (cd_c 146 [.int (I 101 x3.toNatClampNeg), .int x2] (cd_mm L w I J))).bind fun q => cd_go 174 25 [.ref 100, .int x1, .int x2, .int x3] [.int q.1, .int (I 107 (((5 : Int32) * (I 108 x1.toNatClampNeg)) + 4).toNatClampNeg), .int s0] q.2) else none) else none) else none) = some r) : cd_go 174 8 [.ref 100, .int x1, .int x2, .int x3] [.int s0] (cd_mm L w I J) = some r := by
  refine cd_q174_8 ?_
  simp only [cd_zwI, cd_zwL, cd_zI, cd_zJ, cd_zcp, true_and, if_true, cd_zk_100, cd_zR_100_8, cd_zR_100_10, cd_zk_108, cd_zn_108, cd_zk_107, cd_zn_107, cd_zR_100_1, cd_zk_101, cd_zn_101]
  exact h
set_option maxRecDepth 1000000 in
set_option maxHeartbeats 8000000 in
theorem cd_s174_25 {x1 : Int32} {x2 : Int32} {x3 : Int32} {s0 : Int32} {s1 : Int32} {s2 : Int32} {L : Nat} {w : Bool} {I : Nat → Nat → Int32} {J : Nat → Nat → Int64} {r : cd_Ret} (h : (some (some (.int (s0 - (s1 * s2))), (cd_mm L w I J))) = some r) : cd_go 174 25 [.ref 100, .int x1, .int x2, .int x3] [.int s2, .int s1, .int s0] (cd_mm L w I J) = some r := cd_q174_25 h
set_option maxRecDepth 1000000 in
set_option maxHeartbeats 8000000 in
theorem cd_s175_0 {x1 : Int32} {x2 : Int32} {L : Nat} {w : Bool} {I : Nat → Nat → Int32} {J : Nat → Nat → Int64} {r : cd_Ret} (h : ((cd_ci (cd_c 173 [.ref 100, .int x2] (cd_mm L w I J))).bind fun q => cd_go 175 5 [.ref 100, .int x1, .int x2, .int (-1), .null, .null] [.int q.1] q.2) = some r) : cd_go 175 0 [.ref 100, .int x1, .int x2, .null, .null, .null] [] (cd_mm L w I J) = some r := by
  refine cd_q175_0 ?_
  simp only [cd_zwI, cd_zwL, cd_zI, cd_zJ, cd_zcp, true_and, if_true, cd_zk_100]
  exact h
set_option maxRecDepth 1000000 in
set_option maxHeartbeats 8000000 in
theorem cd_s175_5 {x1 : Int32} {x2 : Int32} {x3 : Int32} {s0 : Int32} {L : Nat} {w : Bool} {I : Nat → Nat → Int32} {J : Nat → Nat → Int64} {r : cd_Ret} (h : (cd_go 175 11 [.ref 100, .int x1, .int x2, .int x3, .int s0, .int ((I 100 9) - 1)] [] (cd_mm L w I J)) = some r) : cd_go 175 5 [.ref 100, .int x1, .int x2, .int x3, .null, .null] [.int s0] (cd_mm L w I J) = some r := by
  refine cd_q175_5 ?_
  simp only [cd_zwI, cd_zwL, cd_zI, cd_zJ, cd_zcp, true_and, if_true, cd_zk_100]
  exact h
set_option maxRecDepth 1000000 in
set_option maxHeartbeats 8000000 in
theorem cd_s175_11 {x1 : Int32} {x2 : Int32} {x3 : Int32} {x4 : Int32} {x5 : Int32} {L : Nat} {w : Bool} {I : Nat → Nat → Int32} {J : Nat → Nat → Int64} {r : cd_Ret} (h : (if x5 < 0 then (some (some (.int x3), (cd_mm L w I J))) else if cd_in x5 12 = true then (if (I 112 x5.toNatClampNeg) = 0 then (cd_go 175 11 [.ref 100, .int x1, .int x2, .int x3, .int x4, .int (x5 + (-1))] [] (cd_mm L w I J)) else if cd_in x5 12 = true then (if (I 108 x5.toNatClampNeg) = x1 then ((cd_ci (cd_c 174 [.ref 100, .int x5, .int x2] (cd_mm L w I J))).bind fun q => cd_go 175 28 [.ref 100, .int x1, .int x2, .int x3, .int x4, .int x5] [.int q.1] q.2) else cd_go 175 11 [.ref 100, .int x1, .int x2, .int x3, .int x4, .int (x5 + (-1))] [] (cd_mm L w I J)) else none) else none) = some r) : cd_go 175 11 [.ref 100, .int x1, .int x2, .int x3, .int x4, .int x5] [] (cd_mm L w I J) = some r := by
  refine cd_q175_11 ?_
  simp only [cd_zwI, cd_zwL, cd_zI, cd_zJ, cd_zcp, true_and, if_true, cd_zk_100, cd_zR_100_14, cd_zk_112, cd_zn_112, cd_zR_100_10, cd_zk_108, cd_zn_108]
  exact h
set_option maxRecDepth 1000000 in
set_option maxHeartbeats 8000000 in
theorem cd_s175_28 {x1 : Int32} {x2 : Int32} {x3 : Int32} {x4 : Int32} {x5 : Int32} {s0 : Int32} {L : Nat} {w : Bool} {I : Nat → Nat → Int32} {J : Nat → Nat → Int64} {r : cd_Ret} (h : (if s0 < x4 then (cd_go 175 11 [.ref 100, .int x1, .int x2, .int x3, .int x4, .int (x5 + (-1))] [] (cd_mm L w I J)) else (cd_ci (cd_c 174 [.ref 100, .int x5, .int x2] (cd_mm L w I J))).bind fun q => cd_go 175 36 [.ref 100, .int x1, .int x2, .int x5, .int x4, .int x5] [.int q.1] q.2) = some r) : cd_go 175 28 [.ref 100, .int x1, .int x2, .int x3, .int x4, .int x5] [.int s0] (cd_mm L w I J) = some r := by
  refine cd_q175_28 ?_
  simp only [cd_zwI, cd_zwL, cd_zI, cd_zJ, cd_zcp, true_and, if_true, cd_zk_100]
  exact h
set_option maxRecDepth 1000000 in
set_option maxHeartbeats 8000000 in
theorem cd_s175_36 {x1 : Int32} {x2 : Int32} {x3 : Int32} {x4 : Int32} {x5 : Int32} {s0 : Int32} {L : Nat} {w : Bool} {I : Nat → Nat → Int32} {J : Nat → Nat → Int64} {r : cd_Ret} (h : (cd_go 175 11 [.ref 100, .int x1, .int x2, .int x3, .int s0, .int (x5 + (-1))] [] (cd_mm L w I J)) = some r) : cd_go 175 36 [.ref 100, .int x1, .int x2, .int x3, .int x4, .int x5] [.int s0] (cd_mm L w I J) = some r := cd_q175_36 h
set_option maxRecDepth 1000000 in
set_option maxHeartbeats 8000000 in
theorem cd_s176_0 {x1 : Int32} {x2 : Int32} {L : Nat} {w : Bool} {I : Nat → Nat → Int32} {J : Nat → Nat → Int64} {r : cd_Ret} (h : ((cd_ci (cd_c 175 [.ref 100, .int x1, .int x2] (cd_mm L w I J))).bind fun q => cd_go 176 4 [.ref 100, .int x1, .int x2, .null] [.int q.1] q.2) = some r) : cd_go 176 0 [.ref 100, .int x1, .int x2, .null] [] (cd_mm L w I J) = some r := by
  refine cd_q176_0 ?_
  simp only [cd_zwI, cd_zwL, cd_zI, cd_zJ, cd_zcp, true_and, if_true, cd_zk_100]
  exact h
set_option maxRecDepth 1000000 in
set_option maxHeartbeats 8000000 in
theorem cd_s176_4 {x1 : Int32} {x2 : Int32} {s0 : Int32} {L : Nat} {w : Bool} {I : Nat → Nat → Int32} {J : Nat → Nat → Int64} {r : cd_Ret} (h : (if s0 < 0 then ((cd_ci (cd_c 173 [.ref 100, .int x2] (cd_mm L w I J))).bind fun q => cd_go 176 10 [.ref 100, .int x1, .int x2, .int s0] [.int q.1] q.2) else (cd_ci (cd_c 174 [.ref 100, .int s0, .int x2] (cd_mm L w I J))).bind fun q => cd_go 176 15 [.ref 100, .int x1, .int x2, .int s0] [.int q.1] q.2) = some r) : cd_go 176 4 [.ref 100, .int x1, .int x2, .null] [.int s0] (cd_mm L w I J) = some r := by
  refine cd_q176_4 ?_
  simp only [cd_zwI, cd_zwL, cd_zI, cd_zJ, cd_zcp, true_and, if_true, cd_zk_100]
  exact h
set_option maxRecDepth 1000000 in
set_option maxHeartbeats 8000000 in
theorem cd_s176_10 {x1 : Int32} {x2 : Int32} {x3 : Int32} {s0 : Int32} {L : Nat} {w : Bool} {I : Nat → Nat → Int32} {J : Nat → Nat → Int64} {r : cd_Ret} (h : (cd_go 176 15 [.ref 100, .int x1, .int x2, .int x3] [.int s0] (cd_mm L w I J)) = some r) : cd_go 176 10 [.ref 100, .int x1, .int x2, .int x3] [.int s0] (cd_mm L w I J) = some r := cd_q176_10 h
set_option maxRecDepth 1000000 in
set_option maxHeartbeats 8000000 in
theorem cd_s176_15 {x1 : Int32} {x2 : Int32} {x3 : Int32} {s0 : Int32} {L : Nat} {w : Bool} {I : Nat → Nat → Int32} {J : Nat → Nat → Int64} {r : cd_Ret} (h : (some (some (.int s0), (cd_mm L w I J))) = some r) : cd_go 176 15 [.ref 100, .int x1, .int x2, .int x3] [.int s0] (cd_mm L w I J) = some r := cd_q176_15 h
set_option maxRecDepth 1000000 in
set_option maxHeartbeats 8000000 in
theorem cd_s177_0 {L : Nat} {w : Bool} {I : Nat → Nat → Int32} {J : Nat → Nat → Int64} {r : cd_Ret} (h : (cd_go 177 2 [.ref 100, .int 0, .null, .null, .null, .null] [] (cd_mm L w I J)) = some r) : cd_go 177 0 [.ref 100, .null, .null, .null, .null, .null] [] (cd_mm L w I J) = some r := cd_q177_0 h
set_option maxRecDepth 1000000 in
set_option maxHeartbeats 8000000 in
theorem cd_s177_2 {x1 : Int32} {L : Nat} {w : Bool} {I : Nat → Nat → Int32} {J : Nat → Nat → Int64} {r : cd_Ret} (h : (if x1 < (I 100 9) then (if cd_in x1 12 = true then (if cd_in x1 12 = true then (if cd_in x1 12 = true then (cd_go 177 2 [.ref 100, .int (x1 + 1), .null, .null, .null, .null] [] (cd_mm L w (cd_up (cd_up (cd_up I 117 x1.toNatClampNeg 0) 118 x1.toNatClampNeg 0) 119 x1.toNatClampNeg 0) J)) else none) else none) else none) else cd_go 177 25 [.ref 100, .int 0, .null, .null, .null, .null] [] (cd_mm L w I J)) = some r) : cd_go 177 2 [.ref 100, .int x1, .null, .null, .null, .null] [] (cd_mm L w I J) = some r := by
  refine cd_q177_2 ?_
  simp only [cd_zwI, cd_zwL, cd_zI, cd_zJ, cd_zcp, true_and, if_true, cd_zk_100, cd_zR_100_35, cd_zk_117, cd_zn_117, cd_zR_100_36, cd_zk_118, cd_zn_118, cd_zR_100_37, cd_zk_119, cd_zn_119]
  exact h
set_option maxRecDepth 1000000 in
set_option maxHeartbeats 8000000 in
theorem cd_s177_25 {x1 : Int32} {w2 : Value} {w3 : Value} {w4 : Value} {w5 : Value} {L : Nat} {w : Bool} {I : Nat → Nat → Int32} {J : Nat → Nat → Int64} {r : cd_Ret} (h : (if x1 < (I 100 7) then (if cd_in (((5 : Int32) * x1) + 3) 15 = true then (cd_go 177 40 [.ref 100, .int x1, .int (I 107 (((5 : Int32) * x1) + 3).toNatClampNeg), .int 0, w4, w5] [] (cd_mm L w I J)) else none) else some (none, (cd_mm L w I J))) = some r) : cd_go 177 25 [.ref 100, .int x1, w2, w3, w4, w5] [] (cd_mm L w I J) = some r := by
  refine cd_q177_25 ?_
  simp only [cd_zwI, cd_zwL, cd_zI, cd_zJ, cd_zcp, true_and, if_true, cd_zk_100, cd_zR_100_8, cd_zk_107, cd_zn_107]
  exact h
set_option maxRecDepth 1000000 in
set_option maxHeartbeats 8000000 in
theorem cd_s177_40 {x1 : Int32} {x2 : Int32} {x3 : Int32} {w4 : Value} {w5 : Value} {L : Nat} {w : Bool} {I : Nat → Nat → Int32} {J : Nat → Nat → Int64} {r : cd_Ret} (h : (if x3 < 64 then ((cd_ci (cd_c 150 [.ref 100, .int x1, .int x3] (cd_mm L w I J))).bind fun q => cd_go 177 47 [.ref 100, .int x1, .int x2, .int x3, w4, w5] [.int q.1] q.2) else cd_go 177 25 [.ref 100, .int (x1 + 1), .int x2, .int x3, w4, w5] [] (cd_mm L w I J)) = some r) : cd_go 177 40 [.ref 100, .int x1, .int x2, .int x3, w4, w5] [] (cd_mm L w I J) = some r := by
  refine cd_q177_40 ?_
  simp only [cd_zwI, cd_zwL, cd_zI, cd_zJ, cd_zcp, true_and, if_true, cd_zk_100]
  exact h
set_option maxRecDepth 1000000 in
set_option maxHeartbeats 8000000 in
theorem cd_s177_47 {x1 : Int32} {x2 : Int32} {x3 : Int32} {w4 : Value} {w5 : Value} {s0 : Int32} {L : Nat} {w : Bool} {I : Nat → Nat → Int32} {J : Nat → Nat → Int64} {r : cd_Ret} (h : (if s0 = 0 then (cd_go 177 40 [.ref 100, .int x1, .int x2, .int (x3 + 1), .int (-1), w5] [] (cd_mm L w I J)) else (cd_ci (cd_c 175 [.ref 100, .int x1, .int x3] (cd_mm L w I J))).bind fun q => cd_go 177 52 [.ref 100, .int x1, .int x2, .int x3, w4, w5] [.int q.1] q.2) = some r) : cd_go 177 47 [.ref 100, .int x1, .int x2, .int x3, w4, w5] [.int s0] (cd_mm L w I J) = some r := by
  refine cd_q177_47 ?_
  simp only [cd_zwI, cd_zwL, cd_zI, cd_zJ, cd_zcp, true_and, if_true, cd_zk_100]
  exact h
set_option maxRecDepth 1000000 in
set_option maxHeartbeats 8000000 in
theorem cd_s177_52 {x1 : Int32} {x2 : Int32} {x3 : Int32} {w4 : Value} {w5 : Value} {s0 : Int32} {L : Nat} {w : Bool} {I : Nat → Nat → Int32} {J : Nat → Nat → Int64} {r : cd_Ret} (h : (if s0 < 0 then (cd_go 177 40 [.ref 100, .int x1, .int x2, .int (x3 + 1), .int s0, w5] [] (cd_mm L w I J)) else if cd_in s0 12 = true then (if cd_in (I 109 s0.toNatClampNeg) 8 = true then (if cd_in s0 12 = true then ((cd_ci (cd_c 145 [.int ((x3 / 8) - ((I 101 (I 109 s0.toNatClampNeg).toNatClampNeg) / 8))] (cd_mm L w I J))).bind fun q => cd_go 177 79 [.ref 100, .int x1, .int x2, .int x3, .int s0, .int (I 101 (I 109 s0.toNatClampNeg).toNatClampNeg)] [.int q.1, .int x2, .int (I 117 s0.toNatClampNeg), .int s0, .ref 117] q.2) else none) else none) else none) = some r) : cd_go 177 52 [.ref 100, .int x1, .int x2, .int x3, w4, w5] [.int s0] (cd_mm L w I J) = some r := by
  refine cd_q177_52 ?_
  simp only [cd_zwI, cd_zwL, cd_zI, cd_zJ, cd_zcp, true_and, if_true, cd_zk_100, cd_zR_100_1, cd_zR_100_11, cd_zk_109, cd_zn_109, cd_zk_101, cd_zn_101, cd_zR_100_35, cd_zk_117, cd_zn_117]
  exact h
set_option maxRecDepth 1000000 in
set_option maxHeartbeats 8000000 in
theorem cd_s177_79 {x1 : Int32} {x2 : Int32} {x3 : Int32} {x4 : Int32} {x5 : Int32} {s1 : Int32} {s2 : Int32} {s3 : Int32} {s4 : Int32} {L : Nat} {w : Bool} {I : Nat → Nat → Int32} {J : Nat → Nat → Int64} {r : cd_Ret} (h : (if cd_in s1 12 = true then (if cd_in x4 12 = true then ((cd_ci (cd_c 145 [.int ((x3 - x3 / 8 * 8) - (x5 - x5 / 8 * 8))] (cd_mm L w (cd_up I 117 s1.toNatClampNeg (s2 + (s3 * s4))) J))).bind fun q => cd_go 177 96 [.ref 100, .int x1, .int x2, .int x3, .int x4, .int x5] [.int q.1, .int x2, .int ((cd_up I 117 s1.toNatClampNeg (s2 + (s3 * s4))) 118 x4.toNatClampNeg), .int x4, .ref 118] q.2) else none) else none) = some r) : cd_go 177 79 [.ref 100, .int x1, .int x2, .int x3, .int x4, .int x5] [.int s4, .int s3, .int s2, .int s1, .ref 117] (cd_mm L w I J) = some r := by
  refine cd_q177_79 ?_
  simp only [cd_zwI, cd_zwL, cd_zI, cd_zJ, cd_zcp, true_and, if_true, cd_zk_117, cd_zn_117, cd_zk_100, cd_zR_100_36, cd_zk_118, cd_zn_118]
  exact h
set_option maxRecDepth 1000000 in
set_option maxHeartbeats 8000000 in
theorem cd_s177_96 {x1 : Int32} {x2 : Int32} {x3 : Int32} {x4 : Int32} {x5 : Int32} {s1 : Int32} {s2 : Int32} {s3 : Int32} {s4 : Int32} {L : Nat} {w : Bool} {I : Nat → Nat → Int32} {J : Nat → Nat → Int64} {r : cd_Ret} (h : (if cd_in s1 12 = true then (if cd_in x4 12 = true then (if cd_in x4 12 = true then (cd_go 177 40 [.ref 100, .int x1, .int x2, .int (x3 + 1), .int x4, .int x5] [] (cd_mm L w (cd_up (cd_up I 118 s1.toNatClampNeg (s2 + (s3 * s4))) 119 x4.toNatClampNeg (((cd_up I 118 s1.toNatClampNeg (s2 + (s3 * s4))) 119 x4.toNatClampNeg) + x2)) J)) else none) else none) else none) = some r) : cd_go 177 96 [.ref 100, .int x1, .int x2, .int x3, .int x4, .int x5] [.int s4, .int s3, .int s2, .int s1, .ref 118] (cd_mm L w I J) = some r := by
  refine cd_q177_96 ?_
  simp only [cd_zwI, cd_zwL, cd_zI, cd_zJ, cd_zcp, true_and, if_true, cd_zk_118, cd_zn_118, cd_zk_100, cd_zR_100_37, cd_zk_119, cd_zn_119]
  exact h
set_option maxRecDepth 1000000 in
set_option maxHeartbeats 8000000 in
theorem cd_s178_0 {x1 : Int32} {L : Nat} {w : Bool} {I : Nat → Nat → Int32} {J : Nat → Nat → Int64} {r : cd_Ret} (h : (if cd_in x1 12 = true then ((cd_ci (cd_c 144 [.int (I 117 x1.toNatClampNeg)] (cd_mm L w I J))).bind fun q => cd_go 178 5 [.ref 100, .int x1, .null, .null] [.int q.1] q.2) else none) = some r) : cd_go 178 0 [.ref 100, .int x1, .null, .null] [] (cd_mm L w I J) = some r := by
  refine cd_q178_0 ?_
  simp only [cd_zwI, cd_zwL, cd_zI, cd_zJ, cd_zcp, true_and, if_true, cd_zk_100, cd_zR_100_35, cd_zk_117, cd_zn_117]
  exact h
set_option maxRecDepth 1000000 in
set_option maxHeartbeats 8000000 in
theorem cd_s178_5 {x1 : Int32} {s0 : Int32} {L : Nat} {w : Bool} {I : Nat → Nat → Int32} {J : Nat → Nat → Int64} {r : cd_Ret} (h : (if cd_in x1 12 = true then ((cd_ci (cd_c 144 [.int (I 118 x1.toNatClampNeg)] (cd_mm L w I J))).bind fun q => cd_go 178 11 [.ref 100, .int x1, .int s0, .null] [.int q.1] q.2) else none) = some r) : cd_go 178 5 [.ref 100, .int x1, .null, .null] [.int s0] (cd_mm L w I J) = some r := by
  refine cd_q178_5 ?_
  simp only [cd_zwI, cd_zwL, cd_zI, cd_zJ, cd_zcp, true_and, if_true, cd_zk_100, cd_zR_100_36, cd_zk_118, cd_zn_118]
  exact h
set_option maxRecDepth 1000000 in
set_option maxHeartbeats 8000000 in
theorem cd_s178_11 {x1 : Int32} {x2 : Int32} {s0 : Int32} {L : Nat} {w : Bool} {I : Nat → Nat → Int32} {J : Nat → Nat → Int64} {r : cd_Ret} (h : (if s0 < x2 then (some (some (.int x2), (cd_mm L w I J))) else some (some (.int s0), (cd_mm L w I J))) = some r) : cd_go 178 11 [.ref 100, .int x1, .int x2, .null] [.int s0] (cd_mm L w I J) = some r := cd_q178_11 h
set_option maxRecDepth 1000000 in
set_option maxHeartbeats 8000000 in
theorem cd_s179_0 {x1 : Int32} {x2 : Int32} {L : Nat} {w : Bool} {I : Nat → Nat → Int32} {J : Nat → Nat → Int64} {r : cd_Ret} (h : (if cd_in x1 12 = true then (if (I 110 x1.toNatClampNeg) = 4 then (some (some (.int 0), (cd_mm L w I J))) else (cd_ci (cd_c 139 [.int (I 100 38), .int x1] (cd_mm L w I J))).bind fun q => cd_go 179 10 [.ref 100, .int x1, .int x2, .null] [.int q.1] q.2) else none) = some r) : cd_go 179 0 [.ref 100, .int x1, .int x2, .null] [] (cd_mm L w I J) = some r := by
  refine cd_q179_0 ?_
  simp only [cd_zwI, cd_zwL, cd_zI, cd_zJ, cd_zcp, true_and, if_true, cd_zk_100, cd_zR_100_12, cd_zk_110, cd_zn_110]
  exact h
set_option maxRecDepth 1000000 in
set_option maxHeartbeats 8000000 in
theorem cd_s179_10 {x1 : Int32} {x2 : Int32} {s0 : Int32} {L : Nat} {w : Bool} {I : Nat → Nat → Int32} {J : Nat → Nat → Int64} {r : cd_Ret} (h : (if s0 = 0 then (if cd_in x1 12 = true then (if (I 110 x1.toNatClampNeg) = 0 then (if cd_in x1 12 = true then (if cd_in x1 12 = true then (if cd_in (I 109 x1.toNatClampNeg) 8 = true then ((cd_ci (cd_c 178 [.ref 100, .int x1] (cd_mm L w I J))).bind fun q => cd_go 179 59 [.ref 100, .int x1, .int x2, .int (((I 119 x1.toNatClampNeg) * (I 104 (I 109 x1.toNatClampNeg).toNatClampNeg)) / 10)] [.int q.1] q.2) else none) else none) else none) else if cd_in x1 12 = true then (if (I 110 x1.toNatClampNeg) = 1 then ((cd_ci (cd_c 178 [.ref 100, .int x1] (cd_mm L w I J))).bind fun q => cd_go 179 59 [.ref 100, .int x1, .int x2, .int 40] [.int q.1] q.2) else if cd_in x1 12 = true then (if (I 110 x1.toNatClampNeg) = 2 then (if cd_in x1 12 = true then ((cd_ci (cd_c 178 [.ref 100, .int x1] (cd_mm L w I J))).bind fun q => cd_go 179 59 [.ref 100, .int x1, .int x2, .int ((2 : Int32) * (I 111 x1.toNatClampNeg))] [.int q.1] q.2) else none) else (cd_ci (cd_c 178 [.ref 100, .int x1] (cd_mm L w I J))).bind fun q => cd_go 179 59 [.ref 100, .int x1, .int x2, .int 80] [.int q.1] q.2) else none) else none) else none) else some (some (.int 0), (cd_mm L w I J))) = some r) : cd_go 179 10 [.ref 100, .int x1, .int x2, .null] [.int s0] (cd_mm L w I J) = some r := by
  refine cd_q179_10 ?_
  simp only [cd_zwI, cd_zwL, cd_zI, cd_zJ, cd_zcp, true_and, if_true, cd_zk_100, cd_zR_100_12, cd_zk_110, cd_zn_110, cd_zR_100_37, cd_zk_119, cd_zn_119, cd_zR_100_4, cd_zR_100_11, cd_zk_109, cd_zn_109, cd_zk_104, cd_zn_104, cd_zR_100_13, cd_zk_111, cd_zn_111]
  exact h
set_option maxRecDepth 1000000 in
set_option maxHeartbeats 8000000 in
theorem cd_s179_59 {x1 : Int32} {x2 : Int32} {x3 : Int32} {s0 : Int32} {L : Nat} {w : Bool} {I : Nat → Nat → Int32} {J : Nat → Nat → Int64} {r : cd_Ret} (h : (if x3 < (s0 + x2) then (some (some (.int 1), (cd_mm L w I J))) else some (some (.int 0), (cd_mm L w I J))) = some r) : cd_go 179 59 [.ref 100, .int x1, .int x2, .int x3] [.int s0] (cd_mm L w I J) = some r := cd_q179_59 h
set_option maxRecDepth 1000000 in
set_option maxHeartbeats 8000000 in
theorem cd_s180_0 {x1 : Int32} {o : Nat} (ho : o = 117 ∨ o = 118) {L : Nat} {w : Bool} {I : Nat → Nat → Int32} {J : Nat → Nat → Int64} {r : cd_Ret} (h : (cd_go 180 4 [.ref 100, .int x1, .ref o, .int 0, .int 0] [] (cd_mm L w I J)) = some r) : cd_go 180 0 [.ref 100, .int x1, .ref o, .null, .null] [] (cd_mm L w I J) = some r := cd_q180_0 h
set_option maxRecDepth 1000000 in
set_option maxHeartbeats 8000000 in
theorem cd_s180_4 {x1 : Int32} {x3 : Int32} {x4 : Int32} {o : Nat} (ho : o = 117 ∨ o = 118) {L : Nat} {w : Bool} {I : Nat → Nat → Int32} {J : Nat → Nat → Int64} {r : cd_Ret} (h : (if x4 < (I 100 9) then (if cd_in x4 12 = true then (if (I 112 x4.toNatClampNeg) = 0 then (cd_go 180 4 [.ref 100, .int x1, .ref o, .int (x3 + 0), .int (x4 + 1)] [] (cd_mm L w I J)) else if cd_in x4 12 = true then (if (I 109 x4.toNatClampNeg) = x1 then (if cd_in x4 12 = true then (cd_go 180 4 [.ref 100, .int x1, .ref o, .int (x3 + (I o x4.toNatClampNeg)), .int (x4 + 1)] [] (cd_mm L w I J)) else none) else cd_go 180 4 [.ref 100, .int x1, .ref o, .int (x3 + 0), .int (x4 + 1)] [] (cd_mm L w I J)) else none) else none) else some (some (.int x3), (cd_mm L w I J))) = some r) : cd_go 180 4 [.ref 100, .int x1, .ref o, .int x3, .int x4] [] (cd_mm L w I J) = some r := by
  refine cd_q180_4 ?_
  simp only [cd_zwI, cd_zwL, cd_zI, cd_zJ, cd_zcp, true_and, if_true, cd_zk_100, cd_zR_100_14, cd_zk_112, cd_zn_112, cd_zR_100_11, cd_zk_109, cd_zn_109, cd_zk_o0_117_118 ho, cd_zn_o0_117_118 ho]
  exact h
set_option maxRecDepth 1000000 in
set_option maxHeartbeats 8000000 in
theorem cd_s181_0 {x1 : Int32} {L : Nat} {w : Bool} {I : Nat → Nat → Int32} {J : Nat → Nat → Int64} {r : cd_Ret} (h : ((cd_ci (cd_c 180 [.ref 100, .int x1, .ref 117] (cd_mm L w I J))).bind fun q => cd_go 181 5 [.ref 100, .int x1, .null, .null] [.int q.1] q.2) = some r) : cd_go 181 0 [.ref 100, .int x1, .null, .null] [] (cd_mm L w I J) = some r := by
  refine cd_q181_0 ?_
  simp only [cd_zwI, cd_zwL, cd_zI, cd_zJ, cd_zcp, true_and, if_true, cd_zk_100, cd_zR_100_35]
  exact h
set_option maxRecDepth 1000000 in
set_option maxHeartbeats 8000000 in
theorem cd_s181_5 {x1 : Int32} {s0 : Int32} {L : Nat} {w : Bool} {I : Nat → Nat → Int32} {J : Nat → Nat → Int64} {r : cd_Ret} (h : ((cd_ci (cd_c 144 [.int s0] (cd_mm L w I J))).bind fun q => cd_go 181 6 [.ref 100, .int x1, .null, .null] [.int q.1] q.2) = some r) : cd_go 181 5 [.ref 100, .int x1, .null, .null] [.int s0] (cd_mm L w I J) = some r := cd_q181_5 h
set_option maxRecDepth 1000000 in
set_option maxHeartbeats 8000000 in
theorem cd_s181_6 {x1 : Int32} {s0 : Int32} {L : Nat} {w : Bool} {I : Nat → Nat → Int32} {J : Nat → Nat → Int64} {r : cd_Ret} (h : ((cd_ci (cd_c 180 [.ref 100, .int x1, .ref 118] (cd_mm L w I J))).bind fun q => cd_go 181 12 [.ref 100, .int x1, .int s0, .null] [.int q.1] q.2) = some r) : cd_go 181 6 [.ref 100, .int x1, .null, .null] [.int s0] (cd_mm L w I J) = some r := by
  refine cd_q181_6 ?_
  simp only [cd_zwI, cd_zwL, cd_zI, cd_zJ, cd_zcp, true_and, if_true, cd_zk_100, cd_zR_100_36]
  exact h
set_option maxRecDepth 1000000 in
set_option maxHeartbeats 8000000 in
theorem cd_s181_12 {x1 : Int32} {x2 : Int32} {s0 : Int32} {L : Nat} {w : Bool} {I : Nat → Nat → Int32} {J : Nat → Nat → Int64} {r : cd_Ret} (h : ((cd_ci (cd_c 144 [.int s0] (cd_mm L w I J))).bind fun q => cd_go 181 13 [.ref 100, .int x1, .int x2, .null] [.int q.1] q.2) = some r) : cd_go 181 12 [.ref 100, .int x1, .int x2, .null] [.int s0] (cd_mm L w I J) = some r := cd_q181_12 h
set_option maxRecDepth 1000000 in
set_option maxHeartbeats 8000000 in
theorem cd_s181_13 {x1 : Int32} {x2 : Int32} {s0 : Int32} {L : Nat} {w : Bool} {I : Nat → Nat → Int32} {J : Nat → Nat → Int64} {r : cd_Ret} (h : (if s0 < x2 then (some (some (.int x2), (cd_mm L w I J))) else some (some (.int s0), (cd_mm L w I J))) = some r) : cd_go 181 13 [.ref 100, .int x1, .int x2, .null] [.int s0] (cd_mm L w I J) = some r := cd_q181_13 h
set_option maxRecDepth 1000000 in
set_option maxHeartbeats 8000000 in
theorem cd_s182_0 {x1 : Int32} {L : Nat} {w : Bool} {I : Nat → Nat → Int32} {J : Nat → Nat → Int64} {r : cd_Ret} (h : (if cd_in x1 8 = true then (cd_go 182 7 [.ref 100, .int x1, .int (I 103 x1.toNatClampNeg), .int 0] [] (cd_mm L w I J)) else none) = some r) : cd_go 182 0 [.ref 100, .int x1, .null, .null] [] (cd_mm L w I J) = some r := by
  refine cd_q182_0 ?_
  simp only [cd_zwI, cd_zwL, cd_zI, cd_zJ, cd_zcp, true_and, if_true, cd_zk_100, cd_zR_100_3, cd_zk_103, cd_zn_103]
  exact h
set_option maxRecDepth 1000000 in
set_option maxHeartbeats 8000000 in
theorem cd_s182_7 {x1 : Int32} {x2 : Int32} {x3 : Int32} {L : Nat} {w : Bool} {I : Nat → Nat → Int32} {J : Nat → Nat → Int64} {r : cd_Ret} (h : (if x3 < (I 100 9) then (if cd_in x3 12 = true then (if (I 112 x3.toNatClampNeg) = 0 then (cd_go 182 7 [.ref 100, .int x1, .int x2, .int (x3 + 1)] [] (cd_mm L w I J)) else if cd_in x3 12 = true then (if (I 109 x3.toNatClampNeg) = x1 then (if cd_in x3 12 = true then (if cd_in x3 12 = true then (if (I 110 x3.toNatClampNeg) = 2 then (if cd_in x3 12 = true then (cd_go 182 7 [.ref 100, .int x1, .int (x2 + ((I 119 x3.toNatClampNeg) + (I 111 x3.toNatClampNeg))), .int (x3 + 1)] [] (cd_mm L w I J)) else none) else cd_go 182 7 [.ref 100, .int x1, .int (x2 + ((I 119 x3.toNatClampNeg) + 0)), .int (x3 + 1)] [] (cd_mm L w I J)) else none) else none) else cd_go 182 7 [.ref 100, .int x1, .int x2, .int (x3 + 1)] [] (cd_mm L w I J)) else none) else none) else some (some (.int x2), (cd_mm L w I J))) = some r) : cd_go 182 7 [.ref 100, .int x1, .int x2, .int x3] [] (cd_mm L w I J) = some r := by
  refine cd_q182_7 ?_
  simp only [cd_zwI, cd_zwL, cd_zI, cd_zJ, cd_zcp, true_and, if_true, cd_zk_100, cd_zR_100_14, cd_zk_112, cd_zn_112, cd_zR_100_11, cd_zk_109, cd_zn_109, cd_zR_100_37, cd_zk_119, cd_zn_119, cd_zR_100_12, cd_zk_110, cd_zn_110, cd_zR_100_13, cd_zk_111, cd_zn_111]
  exact h
set_option maxRecDepth 1000000 in
set_option maxHeartbeats 8000000 in
theorem cd_s183_0 {x1 : Int32} {L : Nat} {w : Bool} {I : Nat → Nat → Int32} {J : Nat → Nat → Int64} {r : cd_Ret} (h : ((cd_ci (cd_c 180 [.ref 100, .int x1, .ref 117] (cd_mm L w I J))).bind fun q => cd_go 183 5 [.ref 100, .int x1, .null, .null, .null, .null] [.int q.1] q.2) = some r) : cd_go 183 0 [.ref 100, .int x1, .null, .null, .null, .null] [] (cd_mm L w I J) = some r := by
  refine cd_q183_0 ?_
  simp only [cd_zwI, cd_zwL, cd_zI, cd_zJ, cd_zcp, true_and, if_true, cd_zk_100, cd_zR_100_35]
  exact h
set_option maxRecDepth 1000000 in
set_option maxHeartbeats 8000000 in
theorem cd_s183_5 {x1 : Int32} {s0 : Int32} {L : Nat} {w : Bool} {I : Nat → Nat → Int32} {J : Nat → Nat → Int64} {r : cd_Ret} (h : ((cd_ci (cd_c 180 [.ref 100, .int x1, .ref 118] (cd_mm L w I J))).bind fun q => cd_go 183 11 [.ref 100, .int x1, .int s0, .null, .null, .null] [.int q.1] q.2) = some r) : cd_go 183 5 [.ref 100, .int x1, .null, .null, .null, .null] [.int s0] (cd_mm L w I J) = some r := by
  refine cd_q183_5 ?_
  simp only [cd_zwI, cd_zwL, cd_zI, cd_zJ, cd_zcp, true_and, if_true, cd_zk_100, cd_zR_100_36]
  exact h
set_option maxRecDepth 1000000 in
set_option maxHeartbeats 8000000 in
theorem cd_s183_11 {x1 : Int32} {x2 : Int32} {s0 : Int32} {L : Nat} {w : Bool} {I : Nat → Nat → Int32} {J : Nat → Nat → Int64} {r : cd_Ret} (h : ((cd_ci (cd_c 144 [.int x2] (cd_mm L w I J))).bind fun q => cd_go 183 14 [.ref 100, .int x1, .int x2, .int s0, .null, .null] [.int q.1] q.2) = some r) : cd_go 183 11 [.ref 100, .int x1, .int x2, .null, .null, .null] [.int s0] (cd_mm L w I J) = some r := cd_q183_11 h
set_option maxRecDepth 1000000 in
set_option maxHeartbeats 8000000 in
theorem cd_s183_14 {x1 : Int32} {x2 : Int32} {x3 : Int32} {s0 : Int32} {L : Nat} {w : Bool} {I : Nat → Nat → Int32} {J : Nat → Nat → Int64} {r : cd_Ret} (h : ((cd_ci (cd_c 144 [.int x3] (cd_mm L w I J))).bind fun q => cd_go 183 16 [.ref 100, .int x1, .int x2, .int x3, .null, .null] [.int q.1, .int s0] q.2) = some r) : cd_go 183 14 [.ref 100, .int x1, .int x2, .int x3, .null, .null] [.int s0] (cd_mm L w I J) = some r := cd_q183_14 h
set_option maxRecDepth 1000000 in
set_option maxHeartbeats 8000000 in
theorem cd_s183_16 {x1 : Int32} {x2 : Int32} {x3 : Int32} {s0 : Int32} {s1 : Int32} {L : Nat} {w : Bool} {I : Nat → Nat → Int32} {J : Nat → Nat → Int64} {r : cd_Ret} (h : (if s0 < s1 then (if x3 < 0 then (if cd_in x1 8 = true then ((cd_ci (cd_c 147 [.int (I 101 x1.toNatClampNeg), .int 2] (cd_mm L w I J))).bind fun q => cd_go 183 35 [.ref 100, .int x1, .int x2, .int x3, .int 2, .null] [.int q.1] q.2) else none) else if cd_in x1 8 = true then ((cd_ci (cd_c 147 [.int (I 101 x1.toNatClampNeg), .int 3] (cd_mm L w I J))).bind fun q => cd_go 183 35 [.ref 100, .int x1, .int x2, .int x3, .int 3, .null] [.int q.1] q.2) else none) else if x2 < 0 then (if cd_in x1 8 = true then ((cd_ci (cd_c 147 [.int (I 101 x1.toNatClampNeg), .int 0] (cd_mm L w I J))).bind fun q => cd_go 183 35 [.ref 100, .int x1, .int x2, .int x3, .int 0, .null] [.int q.1] q.2) else none) else if cd_in x1 8 = true then ((cd_ci (cd_c 147 [.int (I 101 x1.toNatClampNeg), .int 1] (cd_mm L w I J))).bind fun q => cd_go 183 35 [.ref 100, .int x1, .int x2, .int x3, .int 1, .null] [.int q.1] q.2) else none) = some r) : cd_go 183 16 [.ref 100, .int x1, .int x2, .int x3, .null, .null] [.int s1, .int s0] (cd_mm L w I J) = some r := by
  refine cd_q183_16 ?_
  simp only [cd_zwI, cd_zwL, cd_zI, cd_zJ, cd_zcp, true_and, if_true, cd_zk_100, cd_zR_100_1, cd_zk_101, cd_zn_101]
  exact h
set_option maxRecDepth 1000000 in
set_option maxHeartbeats 8000000 in
theorem cd_s183_35 {x1 : Int32} {x2 : Int32} {x3 : Int32} {x4 : Int32} {s0 : Int32} {L : Nat} {w : Bool} {I : Nat → Nat → Int32} {J : Nat → Nat → Int64} {r : cd_Ret} (h : (if s0 < 0 then (some (some (.int (-1)), (cd_mm L w I J))) else (cd_ci (cd_c 148 [.ref 100, .int s0] (cd_mm L w I J))).bind fun q => cd_go 183 41 [.ref 100, .int x1, .int x2, .int x3, .int x4, .int s0] [.int q.1] q.2) = some r) : cd_go 183 35 [.ref 100, .int x1, .int x2, .int x3, .int x4, .null] [.int s0] (cd_mm L w I J) = some r := by
  refine cd_q183_35 ?_
  simp only [cd_zwI, cd_zwL, cd_zI, cd_zJ, cd_zcp, true_and, if_true, cd_zk_100]
  exact h
set_option maxRecDepth 1000000 in
set_option maxHeartbeats 8000000 in
theorem cd_s183_41 {x1 : Int32} {x2 : Int32} {x3 : Int32} {x4 : Int32} {x5 : Int32} {s0 : Int32} {L : Nat} {w : Bool} {I : Nat → Nat → Int32} {J : Nat → Nat → Int64} {r : cd_Ret} (h : (if s0 < 0 then (some (some (.int x5), (cd_mm L w I J))) else some (some (.int (-1)), (cd_mm L w I J))) = some r) : cd_go 183 41 [.ref 100, .int x1, .int x2, .int x3, .int x4, .int x5] [.int s0] (cd_mm L w I J) = some r := cd_q183_41 h
set_option maxRecDepth 1000000 in
set_option maxHeartbeats 8000000 in
theorem cd_s184_0 {x1 : Int32} {L : Nat} {w : Bool} {I : Nat → Nat → Int32} {J : Nat → Nat → Int64} {r : cd_Ret} (h : (cd_go 184 4 [.ref 100, .int x1, .int 0, .int 0] [] (cd_mm L w I J)) = some r) : cd_go 184 0 [.ref 100, .int x1, .null, .null] [] (cd_mm L w I J) = some r := cd_q184_0 h
set_option maxRecDepth 1000000 in
set_option maxHeartbeats 8000000 in
theorem cd_s184_4 {x1 : Int32} {x2 : Int32} {x3 : Int32} {L : Nat} {w : Bool} {I : Nat → Nat → Int32} {J : Nat → Nat → Int64} {r : cd_Ret} (h : (if x3 < (I 100 9) then (if cd_in x3 12 = true then (if (I 112 x3.toNatClampNeg) = 0 then (cd_go 184 4 [.ref 100, .int x1, .int (x2 + 0), .int (x3 + 1)] [] (cd_mm L w I J)) else cd_go 184 4 [.ref 100, .int x1, .int (x2 + 1), .int (x3 + 1)] [] (cd_mm L w I J)) else none) else if x1 = 0 then (some (some (.int (I 100 0)), (cd_mm L w I J))) else if x1 = 1 then (some (some (.int (I 100 7)), (cd_mm L w I J))) else if x1 = 2 then (some (some (.int (I 100 9)), (cd_mm L w I J))) else if x1 = 3 then (some (some (.int x2), (cd_mm L w I J))) else if x1 = 4 then (some (some (.int (I 100 54)), (cd_mm L w I J))) else if x1 = 5 then (some (some (.int (I 100 40)), (cd_mm L w I J))) else if x1 = 6 then (some (some (.int (I 100 18)), (cd_mm L w I J))) else some (some (.int (-1002)), (cd_mm L w I J))) = some r) : cd_go 184 4 [.ref 100, .int x1, .int x2, .int x3] [] (cd_mm L w I J) = some r := by
  refine cd_q184_4 ?_
  simp only [cd_zwI, cd_zwL, cd_zI, cd_zJ, cd_zcp, true_and, if_true, cd_zk_100, cd_zR_100_14, cd_zk_112, cd_zn_112]
  exact h
set_option maxRecDepth 1000000 in
set_option maxHeartbeats 8000000 in
theorem cd_s185_0 {x1 : Int32} {x2 : Int32} {L : Nat} {w : Bool} {I : Nat → Nat → Int32} {J : Nat → Nat → Int64} {r : cd_Ret} (h : ((cd_ci (cd_c 141 [.ref 100, .int x1] (cd_mm L w I J))).bind fun q => cd_go 185 3 [.ref 100, .int x1, .int x2] [.int q.1] q.2) = some r) : cd_go 185 0 [.ref 100, .int x1, .int x2] [] (cd_mm L w I J) = some r := by
  refine cd_q185_0 ?_
  simp only [cd_zwI, cd_zwL, cd_zI, cd_zJ, cd_zcp, true_and, if_true, cd_zk_100]
  exact h
set_option maxRecDepth 1000000 in
set_option maxHeartbeats 8000000 in
theorem cd_s185_3 {x1 : Int32} {x2 : Int32} {s0 : Int32} {L : Nat} {w : Bool} {I : Nat → Nat → Int32} {J : Nat → Nat → Int64} {r : cd_Ret} (h : (if s0 = 0 then (some (some (.int (-1001)), (cd_mm L w I J))) else (cd_cv (cd_c 177 [.ref 100] (cd_mm L w I J))).bind fun m => cd_go 185 8 [.ref 100, .int x1, .int x2] [] m) = some r) : cd_go 185 3 [.ref 100, .int x1, .int x2] [.int s0] (cd_mm L w I J) = some r := by
  refine cd_q185_3 ?_
  simp only [cd_zwI, cd_zwL, cd_zI, cd_zJ, cd_zcp, true_and, if_true, cd_zk_100]
  exact h
set_option maxRecDepth 1000000 in
set_option maxHeartbeats 8000000 in
theorem cd_s185_8 {x1 : Int32} {x2 : Int32} {L : Nat} {w : Bool} {I : Nat → Nat → Int32} {J : Nat → Nat → Int64} {r : cd_Ret} (h : (if x2 = 0 then (if cd_in x1 8 = true then (some (some (.int (I 101 x1.toNatClampNeg)), (cd_mm L w I J))) else none) else if x2 = 1 then (if cd_in x1 8 = true then (some (some (.int (I 102 x1.toNatClampNeg)), (cd_mm L w I J))) else none) else if x2 = 2 then (if cd_in x1 8 = true then (some (some (.int (I 103 x1.toNatClampNeg)), (cd_mm L w I J))) else none) else if x2 = 3 then (if cd_in x1 8 = true then (some (some (.int (I 104 x1.toNatClampNeg)), (cd_mm L w I J))) else none) else if x2 = 4 then (if cd_in x1 8 = true then (some (some (.int (I 105 x1.toNatClampNeg)), (cd_mm L w I J))) else none) else if x2 = 5 then (if cd_in x1 8 = true then (if (I 106 x1.toNatClampNeg) = 0 then (some (some (.int 0), (cd_mm L w I J))) else some (some (.int 1), (cd_mm L w I J))) else none) else if x2 = 6 then ((cd_ci (cd_c 180 [.ref 100, .int x1, .ref 117] (cd_mm L w I J))).bind fun q => cd_go 185 49 [.ref 100, .int x1, .int x2] [.int q.1] q.2) else if x2 = 7 then ((cd_ci (cd_c 180 [.ref 100, .int x1, .ref 118] (cd_mm L w I J))).bind fun q => cd_go 185 55 [.ref 100, .int x1, .int x2] [.int q.1] q.2) else if x2 = 8 then ((cd_ci (cd_c 181 [.ref 100, .int x1] (cd_mm L w I J))).bind fun q => cd_go 185 59 [.ref 100, .int x1, .int x2] [.int q.1] q.2) else some (some (.int (-1002)), (cd_mm L w I J))) = some r) : cd_go 185 8 [.ref 100, .int x1, .int x2] [] (cd_mm L w I J) = some r := by
  refine cd_q185_8 ?_
  simp only [cd_zwI, cd_zwL, cd_zI, cd_zJ, cd_zcp, true_and, if_true, cd_zk_100, cd_zR_100_1, cd_zk_101, cd_zn_101, cd_zR_100_2, cd_zk_102, cd_zn_102, cd_zR_100_3, cd_zk_103, cd_zn_103, cd_zR_100_4, cd_zk_104, cd_zn_104, cd_zR_100_5, cd_zk_105, cd_zn_105, cd_zR_100_6, cd_zk_106, cd_zn_106, cd_zR_100_35, cd_zR_100_36]
  exact h
set_option maxRecDepth 1000000 in
set_option maxHeartbeats 8000000 in
theorem cd_s185_49 {x1 : Int32} {x2 : Int32} {s0 : Int32} {L : Nat} {w : Bool} {I : Nat → Nat → Int32} {J : Nat → Nat → Int64} {r : cd_Ret} (h : (some (some (.int s0), (cd_mm L w I J))) = some r) : cd_go 185 49 [.ref 100, .int x1, .int x2] [.int s0] (cd_mm L w I J) = some r := cd_q185_49 h
set_option maxRecDepth 1000000 in
set_option maxHeartbeats 8000000 in
theorem cd_s185_55 {x1 : Int32} {x2 : Int32} {s0 : Int32} {L : Nat} {w : Bool} {I : Nat → Nat → Int32} {J : Nat → Nat → Int64} {r : cd_Ret} (h : (some (some (.int s0), (cd_mm L w I J))) = some r) : cd_go 185 55 [.ref 100, .int x1, .int x2] [.int s0] (cd_mm L w I J) = some r := cd_q185_55 h
set_option maxRecDepth 1000000 in
set_option maxHeartbeats 8000000 in
theorem cd_s185_59 {x1 : Int32} {x2 : Int32} {s0 : Int32} {L : Nat} {w : Bool} {I : Nat → Nat → Int32} {J : Nat → Nat → Int64} {r : cd_Ret} (h : (some (some (.int s0), (cd_mm L w I J))) = some r) : cd_go 185 59 [.ref 100, .int x1, .int x2] [.int s0] (cd_mm L w I J) = some r := cd_q185_59 h
set_option maxRecDepth 1000000 in
set_option maxHeartbeats 8000000 in
theorem cd_s186_0 {x1 : Int32} {x2 : Int32} {L : Nat} {w : Bool} {I : Nat → Nat → Int32} {J : Nat → Nat → Int64} {r : cd_Ret} (h : ((cd_ci (cd_c 142 [.ref 100, .int x1] (cd_mm L w I J))).bind fun q => cd_go 186 3 [.ref 100, .int x1, .int x2] [.int q.1] q.2) = some r) : cd_go 186 0 [.ref 100, .int x1, .int x2] [] (cd_mm L w I J) = some r := by
  refine cd_q186_0 ?_
  simp only [cd_zwI, cd_zwL, cd_zI, cd_zJ, cd_zcp, true_and, if_true, cd_zk_100]
  exact h
set_option maxRecDepth 1000000 in
set_option maxHeartbeats 8000000 in
theorem cd_s186_3 {x1 : Int32} {x2 : Int32} {s0 : Int32} {L : Nat} {w : Bool} {I : Nat → Nat → Int32} {J : Nat → Nat → Int64} {r : cd_Ret} (h : (if s0 = 0 then (some (some (.int (-1001)), (cd_mm L w I J))) else (cd_cv (cd_c 177 [.ref 100] (cd_mm L w I J))).bind fun m => cd_go 186 8 [.ref 100, .int x1, .int x2] [] m) = some r) : cd_go 186 3 [.ref 100, .int x1, .int x2] [.int s0] (cd_mm L w I J) = some r := by
  refine cd_q186_3 ?_
  simp only [cd_zwI, cd_zwL, cd_zI, cd_zJ, cd_zcp, true_and, if_true, cd_zk_100]
  exact h
set_option maxRecDepth 1000000 in
set_option maxHeartbeats 8000000 in
theorem cd_s186_8 {x1 : Int32} {x2 : Int32} {L : Nat} {w : Bool} {I : Nat → Nat → Int32} {J : Nat → Nat → Int64} {r : cd_Ret} (h : (if x2 = 0 then (if cd_in x1 12 = true then (some (some (.int (I 108 x1.toNatClampNeg)), (cd_mm L w I J))) else none) else if x2 = 1 then (if cd_in x1 12 = true then (some (some (.int (I 109 x1.toNatClampNeg)), (cd_mm L w I J))) else none) else if x2 = 2 then (if cd_in x1 12 = true then (some (some (.int (I 110 x1.toNatClampNeg)), (cd_mm L w I J))) else none) else if x2 = 3 then (if cd_in x1 12 = true then (some (some (.int (I 111 x1.toNatClampNeg)), (cd_mm L w I J))) else none) else if x2 = 4 then (if cd_in x1 12 = true then (if (I 112 x1.toNatClampNeg) = 0 then (some (some (.int 0), (cd_mm L w I J))) else some (some (.int 1), (cd_mm L w I J))) else none) else if x2 = 5 then ((cd_ci (cd_c 178 [.ref 100, .int x1] (cd_mm L w I J))).bind fun q => cd_go 186 42 [.ref 100, .int x1, .int x2] [.int q.1] q.2) else if x2 = 6 then (if cd_in x1 12 = true then (some (some (.int (I 119 x1.toNatClampNeg)), (cd_mm L w I J))) else none) else some (some (.int (-1002)), (cd_mm L w I J))) = some r) : cd_go 186 8 [.ref 100, .int x1, .int x2] [] (cd_mm L w I J) = some r := by
  refine cd_q186_8 ?_
  simp only [cd_zwI, cd_zwL, cd_zI, cd_zJ, cd_zcp, true_and, if_true, cd_zk_100, cd_zR_100_10, cd_zk_108, cd_zn_108, cd_zR_100_11, cd_zk_109, cd_zn_109, cd_zR_100_12, cd_zk_110, cd_zn_110, cd_zR_100_13, cd_zk_111, cd_zn_111, cd_zR_100_14, cd_zk_112, cd_zn_112, cd_zR_100_37, cd_zk_119, cd_zn_119]
  exact h
set_option maxRecDepth 1000000 in
set_option maxHeartbeats 8000000 in
theorem cd_s186_42 {x1 : Int32} {x2 : Int32} {s0 : Int32} {L : Nat} {w : Bool} {I : Nat → Nat → Int32} {J : Nat → Nat → Int64} {r : cd_Ret} (h : (some (some (.int s0), (cd_mm L w I J))) = some r) : cd_go 186 42 [.ref 100, .int x1, .int x2] [.int s0] (cd_mm L w I J) = some r := cd_q186_42 h
set_option maxRecDepth 1000000 in
set_option maxHeartbeats 8000000 in
theorem cd_s187_0 {x1 : Int32} {L : Nat} {w : Bool} {I : Nat → Nat → Int32} {J : Nat → Nat → Int64} {r : cd_Ret} (h : ((cd_ci (cd_c 138 [.long x1.toInt64, .long 0, .long (((I 100 7) - 1).toInt64)] (cd_mm L w I J))).bind fun q => cd_go 187 9 [.ref 100, .int x1] [.int q.1] q.2) = some r) : cd_go 187 0 [.ref 100, .int x1] [] (cd_mm L w I J) = some r := by
  refine cd_q187_0 ?_
  simp only [cd_zwI, cd_zwL, cd_zI, cd_zJ, cd_zcp, true_and, if_true, cd_zk_100]
  exact h
set_option maxRecDepth 1000000 in
set_option maxHeartbeats 8000000 in
theorem cd_s187_9 {x1 : Int32} {s0 : Int32} {L : Nat} {w : Bool} {I : Nat → Nat → Int32} {J : Nat → Nat → Int64} {r : cd_Ret} (h : (if s0 &&& 1 = s0 then some (some (.int s0), (cd_mm L w I J)) else none) = some r) : cd_go 187 9 [.ref 100, .int x1] [.int s0] (cd_mm L w I J) = some r := cd_q187_9 h
set_option maxRecDepth 1000000 in
set_option maxHeartbeats 8000000 in
theorem cd_s188_0 {x1 : Int32} {x2 : Int32} {L : Nat} {w : Bool} {I : Nat → Nat → Int32} {J : Nat → Nat → Int64} {r : cd_Ret} (h : ((cd_ci (cd_c 187 [.ref 100, .int x1] (cd_mm L w I J))).bind fun q => cd_go 188 3 [.ref 100, .int x1, .int x2] [.int q.1] q.2) = some r) : cd_go 188 0 [.ref 100, .int x1, .int x2] [] (cd_mm L w I J) = some r := by
  refine cd_q188_0 ?_
  simp only [cd_zwI, cd_zwL, cd_zI, cd_zJ, cd_zcp, true_and, if_true, cd_zk_100]
  exact h
set_option maxRecDepth 1000000 in
set_option maxHeartbeats 8000000 in
theorem cd_s188_3 {x1 : Int32} {x2 : Int32} {s0 : Int32} {L : Nat} {w : Bool} {I : Nat → Nat → Int32} {J : Nat → Nat → Int64} {r : cd_Ret} (h : (if s0 = 0 then (some (some (.int (-1001)), (cd_mm L w I J))) else (cd_ci (cd_c 140 [.int x2] (cd_mm L w I J))).bind fun q => cd_go 188 6 [.ref 100, .int x1, .int x2] [.int q.1] q.2) = some r) : cd_go 188 3 [.ref 100, .int x1, .int x2] [.int s0] (cd_mm L w I J) = some r := cd_q188_3 h
set_option maxRecDepth 1000000 in
set_option maxHeartbeats 8000000 in
theorem cd_s188_6 {x1 : Int32} {x2 : Int32} {s0 : Int32} {L : Nat} {w : Bool} {I : Nat → Nat → Int32} {J : Nat → Nat → Int64} {r : cd_Ret} (h : (if s0 = 0 then (some (some (.int (-1001)), (cd_mm L w I J))) else (cd_ci (cd_c 150 [.ref 100, .int x1, .int x2] (cd_mm L w I J))).bind fun q => cd_go 188 13 [.ref 100, .int x1, .int x2] [.int q.1] q.2) = some r) : cd_go 188 6 [.ref 100, .int x1, .int x2] [.int s0] (cd_mm L w I J) = some r := by
  refine cd_q188_6 ?_
  simp only [cd_zwI, cd_zwL, cd_zI, cd_zJ, cd_zcp, true_and, if_true, cd_zk_100]
  exact h
set_option maxRecDepth 1000000 in
set_option maxHeartbeats 8000000 in
theorem cd_s188_13 {x1 : Int32} {x2 : Int32} {s0 : Int32} {L : Nat} {w : Bool} {I : Nat → Nat → Int32} {J : Nat → Nat → Int64} {r : cd_Ret} (h : (if s0 = 0 then (some (some (.int (-1)), (cd_mm L w I J))) else (cd_ci (cd_c 176 [.ref 100, .int x1, .int x2] (cd_mm L w I J))).bind fun q => cd_go 188 18 [.ref 100, .int x1, .int x2] [.int q.1] q.2) = some r) : cd_go 188 13 [.ref 100, .int x1, .int x2] [.int s0] (cd_mm L w I J) = some r := by
  refine cd_q188_13 ?_
  simp only [cd_zwI, cd_zwL, cd_zI, cd_zJ, cd_zcp, true_and, if_true, cd_zk_100]
  exact h
set_option maxRecDepth 1000000 in
set_option maxHeartbeats 8000000 in
theorem cd_s188_18 {x1 : Int32} {x2 : Int32} {s0 : Int32} {L : Nat} {w : Bool} {I : Nat → Nat → Int32} {J : Nat → Nat → Int64} {r : cd_Ret} (h : (some (some (.int s0), (cd_mm L w I J))) = some r) : cd_go 188 18 [.ref 100, .int x1, .int x2] [.int s0] (cd_mm L w I J) = some r := cd_q188_18 h
set_option maxRecDepth 1000000 in
set_option maxHeartbeats 8000000 in
theorem cd_s189_0 {x1 : Int32} {x2 : Int32} {L : Nat} {w : Bool} {I : Nat → Nat → Int32} {J : Nat → Nat → Int64} {r : cd_Ret} (h : ((cd_ci (cd_c 187 [.ref 100, .int x1] (cd_mm L w I J))).bind fun q => cd_go 189 3 [.ref 100, .int x1, .int x2] [.int q.1] q.2) = some r) : cd_go 189 0 [.ref 100, .int x1, .int x2] [] (cd_mm L w I J) = some r := by
  refine cd_q189_0 ?_
  simp only [cd_zwI, cd_zwL, cd_zI, cd_zJ, cd_zcp, true_and, if_true, cd_zk_100]
  exact h
set_option maxRecDepth 1000000 in
set_option maxHeartbeats 8000000 in
theorem cd_s189_3 {x1 : Int32} {x2 : Int32} {s0 : Int32} {L : Nat} {w : Bool} {I : Nat → Nat → Int32} {J : Nat → Nat → Int64} {r : cd_Ret} (h : (if s0 = 0 then (some (some (.int (-1001)), (cd_mm L w I J))) else (cd_ci (cd_c 140 [.int x2] (cd_mm L w I J))).bind fun q => cd_go 189 6 [.ref 100, .int x1, .int x2] [.int q.1] q.2) = some r) : cd_go 189 3 [.ref 100, .int x1, .int x2] [.int s0] (cd_mm L w I J) = some r := cd_q189_3 h
set_option maxRecDepth 1000000 in
set_option maxHeartbeats 8000000 in
theorem cd_s189_6 {x1 : Int32} {x2 : Int32} {s0 : Int32} {L : Nat} {w : Bool} {I : Nat → Nat → Int32} {J : Nat → Nat → Int64} {r : cd_Ret} (h : (if s0 = 0 then (some (some (.int (-1001)), (cd_mm L w I J))) else (cd_ci (cd_c 150 [.ref 100, .int x1, .int x2] (cd_mm L w I J))).bind fun q => cd_go 189 13 [.ref 100, .int x1, .int x2] [.int q.1] q.2) = some r) : cd_go 189 6 [.ref 100, .int x1, .int x2] [.int s0] (cd_mm L w I J) = some r := by
  refine cd_q189_6 ?_
  simp only [cd_zwI, cd_zwL, cd_zI, cd_zJ, cd_zcp, true_and, if_true, cd_zk_100]
  exact h
set_option maxRecDepth 1000000 in
set_option maxHeartbeats 8000000 in
theorem cd_s189_13 {x1 : Int32} {x2 : Int32} {s0 : Int32} {L : Nat} {w : Bool} {I : Nat → Nat → Int32} {J : Nat → Nat → Int64} {r : cd_Ret} (h : (if s0 = 0 then (some (some (.int (-1003)), (cd_mm L w I J))) else (cd_ci (cd_c 175 [.ref 100, .int x1, .int x2] (cd_mm L w I J))).bind fun q => cd_go 189 18 [.ref 100, .int x1, .int x2] [.int q.1] q.2) = some r) : cd_go 189 13 [.ref 100, .int x1, .int x2] [.int s0] (cd_mm L w I J) = some r := by
  refine cd_q189_13 ?_
  simp only [cd_zwI, cd_zwL, cd_zI, cd_zJ, cd_zcp, true_and, if_true, cd_zk_100]
  exact h
set_option maxRecDepth 1000000 in
set_option maxHeartbeats 8000000 in
theorem cd_s189_18 {x1 : Int32} {x2 : Int32} {s0 : Int32} {L : Nat} {w : Bool} {I : Nat → Nat → Int32} {J : Nat → Nat → Int64} {r : cd_Ret} (h : (some (some (.int s0), (cd_mm L w I J))) = some r) : cd_go 189 18 [.ref 100, .int x1, .int x2] [.int s0] (cd_mm L w I J) = some r := cd_q189_18 h
set_option maxRecDepth 1000000 in
set_option maxHeartbeats 8000000 in
theorem cd_s190_0 {x1 : Int32} {L : Nat} {w : Bool} {I : Nat → Nat → Int32} {J : Nat → Nat → Int64} {r : cd_Ret} (h : (cd_go 190 4 [.ref 100, .int x1, .int (-1), .int 0, .null] [] (cd_mm L w I J)) = some r) : cd_go 190 0 [.ref 100, .int x1, .null, .null, .null] [] (cd_mm L w I J) = some r := cd_q190_0 h
set_option maxRecDepth 1000000 in
set_option maxHeartbeats 8000000 in
theorem cd_s190_4 {x1 : Int32} {x2 : Int32} {x3 : Int32} {w4 : Value} {L : Nat} {w : Bool} {I : Nat → Nat → Int32} {J : Nat → Nat → Int64} {r : cd_Ret} (h : (if x3 < (I 100 7) then ((cd_ci (cd_c 150 [.ref 100, .int x3, .int x1] (cd_mm L w I J))).bind fun q => cd_go 190 12 [.ref 100, .int x1, .int x2, .int x3, w4] [.int q.1] q.2) else some (some (.int x2), (cd_mm L w I J))) = some r) : cd_go 190 4 [.ref 100, .int x1, .int x2, .int x3, w4] [] (cd_mm L w I J) = some r := by
  refine cd_q190_4 ?_
  simp only [cd_zwI, cd_zwL, cd_zI, cd_zJ, cd_zcp, true_and, if_true, cd_zk_100]
  exact h
set_option maxRecDepth 1000000 in
set_option maxHeartbeats 8000000 in
theorem cd_s190_12 {x1 : Int32} {x2 : Int32} {x3 : Int32} {w4 : Value} {s0 : Int32} {L : Nat} {w : Bool} {I : Nat → Nat → Int32} {J : Nat → Nat → Int64} {r : cd_Ret} (h : (if s0 = 0 then (if x2 < (-1) then (cd_go 190 4 [.ref 100, .int x1, .int (-1), .int (x3 + 1), .int (-1)] [] (cd_mm L w I J)) else cd_go 190 4 [.ref 100, .int x1, .int x2, .int (x3 + 1), .int (-1)] [] (cd_mm L w I J)) else (cd_ci (cd_c 176 [.ref 100, .int x3, .int x1] (cd_mm L w I J))).bind fun q => cd_go 190 17 [.ref 100, .int x1, .int x2, .int x3, w4] [.int q.1] q.2) = some r) : cd_go 190 12 [.ref 100, .int x1, .int x2, .int x3, w4] [.int s0] (cd_mm L w I J) = some r := by
  refine cd_q190_12 ?_
  simp only [cd_zwI, cd_zwL, cd_zI, cd_zJ, cd_zcp, true_and, if_true, cd_zk_100]
  exact h
set_option maxRecDepth 1000000 in
set_option maxHeartbeats 8000000 in
theorem cd_s190_17 {x1 : Int32} {x2 : Int32} {x3 : Int32} {w4 : Value} {s0 : Int32} {L : Nat} {w : Bool} {I : Nat → Nat → Int32} {J : Nat → Nat → Int64} {r : cd_Ret} (h : (if x2 < s0 then (cd_go 190 4 [.ref 100, .int x1, .int s0, .int (x3 + 1), .int s0] [] (cd_mm L w I J)) else cd_go 190 4 [.ref 100, .int x1, .int x2, .int (x3 + 1), .int s0] [] (cd_mm L w I J)) = some r) : cd_go 190 17 [.ref 100, .int x1, .int x2, .int x3, w4] [.int s0] (cd_mm L w I J) = some r := cd_q190_17 h
set_option maxRecDepth 1000000 in
set_option maxHeartbeats 8000000 in
theorem cd_s191_0 {x1 : Int32} {L : Nat} {w : Bool} {I : Nat → Nat → Int32} {J : Nat → Nat → Int64} {r : cd_Ret} (h : ((cd_ci (cd_c 140 [.int x1] (cd_mm L w I J))).bind fun q => cd_go 191 2 [.ref 100, .int x1] [.int q.1] q.2) = some r) : cd_go 191 0 [.ref 100, .int x1] [] (cd_mm L w I J) = some r := cd_q191_0 h
set_option maxRecDepth 1000000 in
set_option maxHeartbeats 8000000 in
theorem cd_s191_2 {x1 : Int32} {s0 : Int32} {L : Nat} {w : Bool} {I : Nat → Nat → Int32} {J : Nat → Nat → Int64} {r : cd_Ret} (h : (if s0 = 0 then (some (some (.int (-1001)), (cd_mm L w I J))) else (cd_ci (cd_c 190 [.ref 100, .int x1] (cd_mm L w I J))).bind fun q => cd_go 191 6 [.ref 100, .int x1] [.int q.1] q.2) = some r) : cd_go 191 2 [.ref 100, .int x1] [.int s0] (cd_mm L w I J) = some r := by
  refine cd_q191_2 ?_
  simp only [cd_zwI, cd_zwL, cd_zI, cd_zJ, cd_zcp, true_and, if_true, cd_zk_100]
  exact h
set_option maxRecDepth 1000000 in
set_option maxHeartbeats 8000000 in
theorem cd_s191_6 {x1 : Int32} {s0 : Int32} {L : Nat} {w : Bool} {I : Nat → Nat → Int32} {J : Nat → Nat → Int64} {r : cd_Ret} (h : (some (some (.int s0), (cd_mm L w I J))) = some r) : cd_go 191 6 [.ref 100, .int x1] [.int s0] (cd_mm L w I J) = some r := cd_q191_6 h
set_option maxRecDepth 1000000 in
set_option maxHeartbeats 8000000 in
theorem cd_s192_0 {x1 : Int32} {x2 : Int32} {L : Nat} {w : Bool} {I : Nat → Nat → Int32} {J : Nat → Nat → Int64} {r : cd_Ret} (h : ((cd_ci (cd_c 142 [.ref 100, .int x1] (cd_mm L w I J))).bind fun q => cd_go 192 3 [.ref 100, .int x1, .int x2] [.int q.1] q.2) = some r) : cd_go 192 0 [.ref 100, .int x1, .int x2] [] (cd_mm L w I J) = some r := by
  refine cd_q192_0 ?_
  simp only [cd_zwI, cd_zwL, cd_zI, cd_zJ, cd_zcp, true_and, if_true, cd_zk_100]
  exact h
set_option maxRecDepth 1000000 in
set_option maxHeartbeats 8000000 in
theorem cd_s192_3 {x1 : Int32} {x2 : Int32} {s0 : Int32} {L : Nat} {w : Bool} {I : Nat → Nat → Int32} {J : Nat → Nat → Int64} {r : cd_Ret} (h : (if s0 = 0 then (some (some (.int (-1001)), (cd_mm L w I J))) else (cd_ci (cd_c 143 [.int x2] (cd_mm L w I J))).bind fun q => cd_go 192 8 [.ref 100, .int x1, .int x2] [.int q.1] q.2) = some r) : cd_go 192 3 [.ref 100, .int x1, .int x2] [.int s0] (cd_mm L w I J) = some r := cd_q192_3 h
set_option maxRecDepth 1000000 in
set_option maxHeartbeats 8000000 in
theorem cd_s192_8 {x1 : Int32} {x2 : Int32} {s0 : Int32} {L : Nat} {w : Bool} {I : Nat → Nat → Int32} {J : Nat → Nat → Int64} {r : cd_Ret} (h : (if s0 = 0 then (some (some (.int (-1002)), (cd_mm L w I J))) else if cd_in x1 12 = true then (if (I 112 x1.toNatClampNeg) = 0 then (some (some (.int (-1003)), (cd_mm L w I J))) else (cd_cv (cd_c 177 [.ref 100] (cd_mm L w I J))).bind fun m => cd_go 192 20 [.ref 100, .int x1, .int x2] [] m) else none) = some r) : cd_go 192 8 [.ref 100, .int x1, .int x2] [.int s0] (cd_mm L w I J) = some r := by
  refine cd_q192_8 ?_
  simp only [cd_zwI, cd_zwL, cd_zI, cd_zJ, cd_zcp, true_and, if_true, cd_zk_100, cd_zR_100_14, cd_zk_112, cd_zn_112]
  exact h
set_option maxRecDepth 1000000 in
set_option maxHeartbeats 8000000 in
theorem cd_s192_20 {x1 : Int32} {x2 : Int32} {L : Nat} {w : Bool} {I : Nat → Nat → Int32} {J : Nat → Nat → Int64} {r : cd_Ret} (h : ((cd_ci (cd_c 179 [.ref 100, .int x1, .int x2] (cd_mm L w I J))).bind fun q => cd_go 192 24 [.ref 100, .int x1, .int x2] [.int q.1] q.2) = some r) : cd_go 192 20 [.ref 100, .int x1, .int x2] [] (cd_mm L w I J) = some r := by
  refine cd_q192_20 ?_
  simp only [cd_zwI, cd_zwL, cd_zI, cd_zJ, cd_zcp, true_and, if_true, cd_zk_100]
  exact h
set_option maxRecDepth 1000000 in
set_option maxHeartbeats 8000000 in
theorem cd_s192_24 {x1 : Int32} {x2 : Int32} {s0 : Int32} {L : Nat} {w : Bool} {I : Nat → Nat → Int32} {J : Nat → Nat → Int64} {r : cd_Ret} (h : (if s0 = 0 then (some (some (.int 0), (cd_mm L w I J))) else some (some (.int 1), (cd_mm L w I J))) = some r) : cd_go 192 24 [.ref 100, .int x1, .int x2] [.int s0] (cd_mm L w I J) = some r := cd_q192_24 h
set_option maxRecDepth 1000000 in
set_option maxHeartbeats 8000000 in
theorem cd_s193_0 {x1 : Int32} {x2 : Int32} {L : Nat} {w : Bool} {I : Nat → Nat → Int32} {J : Nat → Nat → Int64} {r : cd_Ret} (h : ((cd_cv (cd_c 177 [.ref 100] (cd_mm L w I J))).bind fun m => cd_go 193 2 [.ref 100, .int x1, .int x2, .null, .null] [] m) = some r) : cd_go 193 0 [.ref 100, .int x1, .int x2, .null, .null] [] (cd_mm L w I J) = some r := by
  refine cd_q193_0 ?_
  simp only [cd_zwI, cd_zwL, cd_zI, cd_zJ, cd_zcp, true_and, if_true, cd_zk_100]
  exact h
set_option maxRecDepth 1000000 in
set_option maxHeartbeats 8000000 in
theorem cd_s193_2 {x1 : Int32} {x2 : Int32} {L : Nat} {w : Bool} {I : Nat → Nat → Int32} {J : Nat → Nat → Int64} {r : cd_Ret} (h : (cd_go 193 4 [.ref 100, .int x1, .int x2, .int 0, .null] [] (cd_mm L w I J)) = some r) : cd_go 193 2 [.ref 100, .int x1, .int x2, .null, .null] [] (cd_mm L w I J) = some r := cd_q193_2 h
set_option maxRecDepth 1000000 in
set_option maxHeartbeats 8000000 in
theorem cd_s193_4 {x1 : Int32} {x2 : Int32} {x3 : Int32} {L : Nat} {w : Bool} {I : Nat → Nat → Int32} {J : Nat → Nat → Int64} {r : cd_Ret} (h : (if x3 < (I 100 9) then (if cd_in x3 12 = true then (if (I 112 x3.toNatClampNeg) = 0 then (cd_go 193 4 [.ref 100, .int x1, .int x2, .int (x3 + 1), .null] [] (cd_mm L w I J)) else if cd_in x3 12 = true then (if (I 109 x3.toNatClampNeg) = x1 then ((cd_ci (cd_c 179 [.ref 100, .int x3, .int x2] (cd_mm L w I J))).bind fun q => cd_go 193 25 [.ref 100, .int x1, .int x2, .int x3, .null] [.int q.1] q.2) else (cd_ci (cd_c 179 [.ref 100, .int x3, .int 0] (cd_mm L w I J))).bind fun q => cd_go 193 25 [.ref 100, .int x1, .int x2, .int x3, .null] [.int q.1] q.2) else none) else none) else cd_go 193 35 [.ref 100, .int x1, .int x2, .int 0, .null] [] (cd_mm L w I J)) = some r) : cd_go 193 4 [.ref 100, .int x1, .int x2, .int x3, .null] [] (cd_mm L w I J) = some r := by
  refine cd_q193_4 ?_
  simp only [cd_zwI, cd_zwL, cd_zI, cd_zJ, cd_zcp, true_and, if_true, cd_zk_100, cd_zR_100_14, cd_zk_112, cd_zn_112, cd_zR_100_11, cd_zk_109, cd_zn_109]
  exact h
set_option maxRecDepth 1000000 in
set_option maxHeartbeats 8000000 in
theorem cd_s193_25 {x1 : Int32} {x2 : Int32} {x3 : Int32} {s0 : Int32} {L : Nat} {w : Bool} {I : Nat → Nat → Int32} {J : Nat → Nat → Int64} {r : cd_Ret} (h : (if s0 = 0 then (cd_go 193 4 [.ref 100, .int x1, .int x2, .int (x3 + 1), .null] [] (cd_mm L w I J)) else some (some (.int 0), (cd_mm L w (cd_up I 100 39 x3) J))) = some r) : cd_go 193 25 [.ref 100, .int x1, .int x2, .int x3, .null] [.int s0] (cd_mm L w I J) = some r := by
  refine cd_q193_25 ?_
  simp only [cd_zwI, cd_zwL, cd_zI, cd_zJ, cd_zcp, true_and, if_true, cd_zk_100]
  exact h
set_option maxRecDepth 1000000 in
set_option maxHeartbeats 8000000 in
theorem cd_s193_35 {x1 : Int32} {x2 : Int32} {x3 : Int32} {L : Nat} {w : Bool} {I : Nat → Nat → Int32} {J : Nat → Nat → Int64} {r : cd_Ret} (h : (if x3 < (I 100 0) then (if cd_in x3 8 = true then (if (I 106 x3.toNatClampNeg) = 0 then ((cd_ci (cd_c 181 [.ref 100, .int x3] (cd_mm L w I J))).bind fun q => cd_go 193 47 [.ref 100, .int x1, .int x2, .int x3, .null] [.int q.1] q.2) else cd_go 193 35 [.ref 100, .int x1, .int x2, .int (x3 + 1), .null] [] (cd_mm L w I J)) else none) else cd_go 193 78 [.ref 100, .int x1, .int x2, .int 0, .null] [] (cd_mm L w I J)) = some r) : cd_go 193 35 [.ref 100, .int x1, .int x2, .int x3, .null] [] (cd_mm L w I J) = some r := by
  refine cd_q193_35 ?_
  simp only [cd_zwI, cd_zwL, cd_zI, cd_zJ, cd_zcp, true_and, if_true, cd_zk_100, cd_zR_100_6, cd_zk_106, cd_zn_106]
  exact h
set_option maxRecDepth 1000000 in
set_option maxHeartbeats 8000000 in
theorem cd_s193_47 {x1 : Int32} {x2 : Int32} {x3 : Int32} {s0 : Int32} {L : Nat} {w : Bool} {I : Nat → Nat → Int32} {J : Nat → Nat → Int64} {r : cd_Ret} (h : (if x3 = x1 then (if cd_in x3 8 = true then (if cd_in x3 8 = true then (if cd_in x3 8 = true then (if ((I 103 x3.toNatClampNeg) * (I 105 x3.toNatClampNeg)) < ((s0 + x2) * (I 102 x3.toNatClampNeg)) then (some (some (.int 1), (cd_mm L w (cd_up I 100 39 x3) J))) else cd_go 193 35 [.ref 100, .int x1, .int x2, .int (x3 + 1), .null] [] (cd_mm L w I J)) else none) else none) else none) else if cd_in x3 8 = true then (if cd_in x3 8 = true then (if cd_in x3 8 = true then (if ((I 103 x3.toNatClampNeg) * (I 105 x3.toNatClampNeg)) < ((s0 + 0) * (I 102 x3.toNatClampNeg)) then (some (some (.int 1), (cd_mm L w (cd_up I 100 39 x3) J))) else cd_go 193 35 [.ref 100, .int x1, .int x2, .int (x3 + 1), .null] [] (cd_mm L w I J)) else none) else none) else none) = some r) : cd_go 193 47 [.ref 100, .int x1, .int x2, .int x3, .null] [.int s0] (cd_mm L w I J) = some r := by
  refine cd_q193_47 ?_
  simp only [cd_zwI, cd_zwL, cd_zI, cd_zJ, cd_zcp, true_and, if_true, cd_zk_100, cd_zR_100_2, cd_zk_102, cd_zn_102, cd_zR_100_3, cd_zk_103, cd_zn_103, cd_zR_100_5, cd_zk_105, cd_zn_105]
  exact h
set_option maxRecDepth 1000000 in
set_option maxHeartbeats 8000000 in
theorem cd_s193_78 {x1 : Int32} {x2 : Int32} {x3 : Int32} {w4 : Value} {L : Nat} {w : Bool} {I : Nat → Nat → Int32} {J : Nat → Nat → Int64} {r : cd_Ret} (h : (if x3 < (I 100 0) then ((cd_ci (cd_c 181 [.ref 100, .int x3] (cd_mm L w I J))).bind fun q => cd_go 193 85 [.ref 100, .int x1, .int x2, .int x3, w4] [.int q.1] q.2) else some (some (.int (-1)), (cd_mm L w I J))) = some r) : cd_go 193 78 [.ref 100, .int x1, .int x2, .int x3, w4] [] (cd_mm L w I J) = some r := by
  refine cd_q193_78 ?_
  simp only [cd_zwI, cd_zwL, cd_zI, cd_zJ, cd_zcp, true_and, if_true, cd_zk_100]
  exact h
set_option maxRecDepth 1000000 in
set_option maxHeartbeats 8000000 in
theorem cd_s193_85 {x1 : Int32} {x2 : Int32} {x3 : Int32} {w4 : Value} {s0 : Int32} {L : Nat} {w : Bool} {I : Nat → Nat → Int32} {J : Nat → Nat → Int64} {r : cd_Ret} (h : (if x3 = x1 then ((cd_ci (cd_c 182 [.ref 100, .int x3] (cd_mm L w I J))).bind fun q => cd_go 193 95 [.ref 100, .int x1, .int x2, .int x3, w4] [.int q.1, .int (s0 + x2)] q.2) else (cd_ci (cd_c 182 [.ref 100, .int x3] (cd_mm L w I J))).bind fun q => cd_go 193 95 [.ref 100, .int x1, .int x2, .int x3, w4] [.int q.1, .int (s0 + 0)] q.2) = some r) : cd_go 193 85 [.ref 100, .int x1, .int x2, .int x3, w4] [.int s0] (cd_mm L w I J) = some r := by
  refine cd_q193_85 ?_
  simp only [cd_zwI, cd_zwL, cd_zI, cd_zJ, cd_zcp, true_and, if_true, cd_zk_100]
  exact h
set_option maxRecDepth 1000000 in
set_option maxHeartbeats 8000000 in
theorem cd_s193_95 {x1 : Int32} {x2 : Int32} {x3 : Int32} {w4 : Value} {s0 : Int32} {s1 : Int32} {L : Nat} {w : Bool} {I : Nat → Nat → Int32} {J : Nat → Nat → Int64} {r : cd_Ret} (h : (if cd_in x3 8 = true then (if ((s1 * (I 104 x3.toNatClampNeg)) / 10) < s0 then ((cd_ci (cd_c 183 [.ref 100, .int x3] (cd_mm L w I J))).bind fun q => cd_go 193 112 [.ref 100, .int x1, .int x2, .int x3, .int 1] [.int q.1] q.2) else cd_go 193 78 [.ref 100, .int x1, .int x2, .int (x3 + 1), .int 0] [] (cd_mm L w I J)) else none) = some r) : cd_go 193 95 [.ref 100, .int x1, .int x2, .int x3, w4] [.int s1, .int s0] (cd_mm L w I J) = some r := by
  refine cd_q193_95 ?_
  simp only [cd_zwI, cd_zwL, cd_zI, cd_zJ, cd_zcp, true_and, if_true, cd_zk_100, cd_zR_100_4, cd_zk_104, cd_zn_104]
  exact h
set_option maxRecDepth 1000000 in
set_option maxHeartbeats 8000000 in
theorem cd_s193_112 {x1 : Int32} {x2 : Int32} {x3 : Int32} {x4 : Int32} {s0 : Int32} {L : Nat} {w : Bool} {I : Nat → Nat → Int32} {J : Nat → Nat → Int64} {r : cd_Ret} (h : (if s0 < 0 then (cd_go 193 78 [.ref 100, .int x1, .int x2, .int (x3 + 1), .int x4] [] (cd_mm L w I J)) else some (some (.int 2), (cd_mm L w (cd_up I 100 39 x3) J))) = some r) : cd_go 193 112 [.ref 100, .int x1, .int x2, .int x3, .int x4] [.int s0] (cd_mm L w I J) = some r := by
  refine cd_q193_112 ?_
  simp only [cd_zwI, cd_zwL, cd_zI, cd_zJ, cd_zcp, true_and, if_true, cd_zk_100]
  exact h
set_option maxRecDepth 1000000 in
set_option maxHeartbeats 8000000 in
theorem cd_s194_0 {x1 : Int32} {L : Nat} {w : Bool} {I : Nat → Nat → Int32} {J : Nat → Nat → Int64} {r : cd_Ret} (h : (if x1 = 0 then (if cd_in (I 100 39) 12 = true then (some (none, (cd_mm L w (cd_up I 112 (I 100 39).toNatClampNeg 0) J))) else none) else if x1 = 1 then (if cd_in (I 100 39) 8 = true then (some (none, (cd_mm L w (cd_up I 106 (I 100 39).toNatClampNeg 1) J))) else none) else (cd_ci (cd_c 183 [.ref 100, .int (I 100 39)] (cd_mm L w I J))).bind fun q => cd_go 194 27 [.ref 100, .int x1, .null] [.int q.1, .int (I 100 39), .ref 101] q.2) = some r) : cd_go 194 0 [.ref 100, .int x1, .null] [] (cd_mm L w I J) = some r := by
  refine cd_q194_0 ?_
  simp only [cd_zwI, cd_zwL, cd_zI, cd_zJ, cd_zcp, true_and, if_true, cd_zk_100, cd_zR_100_14, cd_zk_112, cd_zn_112, cd_zR_100_6, cd_zk_106, cd_zn_106, cd_zR_100_1]
  exact h
set_option maxRecDepth 1000000 in
set_option maxHeartbeats 8000000 in
theorem cd_s194_27 {x1 : Int32} {s1 : Int32} {s2 : Int32} {L : Nat} {w : Bool} {I : Nat → Nat → Int32} {J : Nat → Nat → Int64} {r : cd_Ret} (h : (if cd_in s1 8 = true then (cd_go 194 30 [.ref 100, .int x1, .int 0] [] (cd_mm L w (cd_up I 101 s1.toNatClampNeg s2) J)) else none) = some r) : cd_go 194 27 [.ref 100, .int x1, .null] [.int s2, .int s1, .ref 101] (cd_mm L w I J) = some r := by
  refine cd_q194_27 ?_
  simp only [cd_zwI, cd_zwL, cd_zI, cd_zJ, cd_zcp, true_and, if_true, cd_zk_101, cd_zn_101]
  exact h
set_option maxRecDepth 1000000 in
set_option maxHeartbeats 8000000 in
theorem cd_s194_30 {x1 : Int32} {x2 : Int32} {L : Nat} {w : Bool} {I : Nat → Nat → Int32} {J : Nat → Nat → Int64} {r : cd_Ret} (h : (if x2 < (I 100 9) then (if cd_in x2 12 = true then (if (I 112 x2.toNatClampNeg) = 0 then (if cd_in x2 12 = true then (cd_go 194 30 [.ref 100, .int x1, .int (x2 + 1)] [] (cd_mm L w (cd_up I 112 x2.toNatClampNeg 0) J)) else none) else if cd_in x2 12 = true then (if cd_in x2 12 = true then (if cd_in (I 109 x2.toNatClampNeg) 8 = true then ((cd_ci (cd_c 150 [.ref 100, .int (I 108 x2.toNatClampNeg), .int (I 101 (I 109 x2.toNatClampNeg).toNatClampNeg)] (cd_mm L w I J))).bind fun q => cd_go 194 55 [.ref 100, .int x1, .int x2] [.int q.1, .int x2, .ref 112] q.2) else none) else none) else none) else none) else some (none, (cd_mm L w I J))) = some r) : cd_go 194 30 [.ref 100, .int x1, .int x2] [] (cd_mm L w I J) = some r := by
  refine cd_q194_30 ?_
  simp only [cd_zwI, cd_zwL, cd_zI, cd_zJ, cd_zcp, true_and, if_true, cd_zk_100, cd_zR_100_14, cd_zk_112, cd_zn_112, cd_zR_100_10, cd_zk_108, cd_zn_108, cd_zR_100_1, cd_zR_100_11, cd_zk_109, cd_zn_109, cd_zk_101, cd_zn_101]
  exact h
set_option maxRecDepth 1000000 in
set_option maxHeartbeats 8000000 in
theorem cd_s194_55 {x1 : Int32} {x2 : Int32} {s1 : Int32} {s2 : Int32} {L : Nat} {w : Bool} {I : Nat → Nat → Int32} {J : Nat → Nat → Int64} {r : cd_Ret} (h : (if s2 = 0 then (if cd_in s1 12 = true then (cd_go 194 30 [.ref 100, .int x1, .int (x2 + 1)] [] (cd_mm L w (cd_up I 112 s1.toNatClampNeg 0) J)) else none) else if cd_in s1 12 = true then (cd_go 194 30 [.ref 100, .int x1, .int (x2 + 1)] [] (cd_mm L w (cd_up I 112 s1.toNatClampNeg 1) J)) else none) = some r) : cd_go 194 55 [.ref 100, .int x1, .int x2] [.int s2, .int s1, .ref 112] (cd_mm L w I J) = some r := by
  refine cd_q194_55 ?_
  simp only [cd_zwI, cd_zwL, cd_zI, cd_zJ, cd_zcp, true_and, if_true, cd_zk_112, cd_zn_112]
  exact h
set_option maxRecDepth 1000000 in
set_option maxHeartbeats 8000000 in
theorem cd_s195_0 {x1 : Int32} {x2 : Int32} {L : Nat} {w : Bool} {I : Nat → Nat → Int32} {J : Nat → Nat → Int64} {r : cd_Ret} (h : ((cd_ci (cd_c 193 [.ref 100, .int x1, .int x2] (cd_mm L w I J))).bind fun q => cd_go 195 6 [.ref 100, .int x1, .int x2, .int 0, .null] [.int q.1] q.2) = some r) : cd_go 195 0 [.ref 100, .int x1, .int x2, .null, .null] [] (cd_mm L w I J) = some r := by
  refine cd_q195_0 ?_
  simp only [cd_zwI, cd_zwL, cd_zI, cd_zJ, cd_zcp, true_and, if_true, cd_zk_100]
  exact h
set_option maxRecDepth 1000000 in
set_option maxHeartbeats 8000000 in
theorem cd_s195_6 {x1 : Int32} {x2 : Int32} {x3 : Int32} {s0 : Int32} {L : Nat} {w : Bool} {I : Nat → Nat → Int32} {J : Nat → Nat → Int64} {r : cd_Ret} (h : (cd_go 195 7 [.ref 100, .int x1, .int x2, .int x3, .int s0] [] (cd_mm L w I J)) = some r) : cd_go 195 6 [.ref 100, .int x1, .int x2, .int x3, .null] [.int s0] (cd_mm L w I J) = some r := cd_q195_6 h
set_option maxRecDepth 1000000 in
set_option maxHeartbeats 8000000 in
theorem cd_s195_7 {x1 : Int32} {x2 : Int32} {x3 : Int32} {x4 : Int32} {L : Nat} {w : Bool} {I : Nat → Nat → Int32} {J : Nat → Nat → Int64} {r : cd_Ret} (h : (if x4 < 0 then (some (some (.int x3), (cd_mm L w I J))) else if cd_in x3 60 = true then (if cd_in x3 60 = true then ((cd_cv (cd_c 194 [.ref 100, .int x4] (cd_mm L w (cd_up (cd_up I 122 x3.toNatClampNeg x4) 123 x3.toNatClampNeg ((cd_up I 122 x3.toNatClampNeg x4) 100 39)) J))).bind fun m => cd_go 195 24 [.ref 100, .int x1, .int x2, .int (x3 + 1), .int x4] [] m) else none) else none) = some r) : cd_go 195 7 [.ref 100, .int x1, .int x2, .int x3, .int x4] [] (cd_mm L w I J) = some r := by
  refine cd_q195_7 ?_
  simp only [cd_zwI, cd_zwL, cd_zI, cd_zJ, cd_zcp, true_and, if_true, cd_zk_100, cd_zR_100_43, cd_zk_122, cd_zn_122, cd_zR_100_44, cd_zk_123, cd_zn_123]
  exact h
set_option maxRecDepth 1000000 in
set_option maxHeartbeats 8000000 in
theorem cd_s195_24 {x1 : Int32} {x2 : Int32} {x3 : Int32} {x4 : Int32} {L : Nat} {w : Bool} {I : Nat → Nat → Int32} {J : Nat → Nat → Int64} {r : cd_Ret} (h : (if x3 < 60 then ((cd_ci (cd_c 193 [.ref 100, .int (-1), .int 0] (cd_mm L w I J))).bind fun q => cd_go 195 31 [.ref 100, .int x1, .int x2, .int x3, .int x4] [.int q.1] q.2) else cd_go 195 7 [.ref 100, .int x1, .int x2, .int x3, .int (-1)] [] (cd_mm L w I J)) = some r) : cd_go 195 24 [.ref 100, .int x1, .int x2, .int x3, .int x4] [] (cd_mm L w I J) = some r := by
  refine cd_q195_24 ?_
  simp only [cd_zwI, cd_zwL, cd_zI, cd_zJ, cd_zcp, true_and, if_true, cd_zk_100]
  exact h
set_option maxRecDepth 1000000 in
set_option maxHeartbeats 8000000 in
theorem cd_s195_31 {x1 : Int32} {x2 : Int32} {x3 : Int32} {x4 : Int32} {s0 : Int32} {L : Nat} {w : Bool} {I : Nat → Nat → Int32} {J : Nat → Nat → Int64} {r : cd_Ret} (h : (cd_go 195 7 [.ref 100, .int x1, .int x2, .int x3, .int s0] [] (cd_mm L w I J)) = some r) : cd_go 195 31 [.ref 100, .int x1, .int x2, .int x3, .int x4] [.int s0] (cd_mm L w I J) = some r := cd_q195_31 h
set_option maxRecDepth 1000000 in
set_option maxHeartbeats 8000000 in
theorem cd_s196_0 {x1 : Int32} {x2 : Int32} {L : Nat} {w : Bool} {I : Nat → Nat → Int32} {J : Nat → Nat → Int64} {r : cd_Ret} (h : ((cd_ci (cd_c 195 [.ref 100, .int x1, .int x2] (cd_mm L w I J))).bind fun q => cd_go 196 5 [.ref 100, .int x1, .int x2, .null] [.int q.1, .ref 100] q.2) = some r) : cd_go 196 0 [.ref 100, .int x1, .int x2, .null] [] (cd_mm L w I J) = some r := by
  refine cd_q196_0 ?_
  simp only [cd_zwI, cd_zwL, cd_zI, cd_zJ, cd_zcp, true_and, if_true, cd_zk_100]
  exact h
set_option maxRecDepth 1000000 in
set_option maxHeartbeats 8000000 in
theorem cd_s196_5 {x1 : Int32} {x2 : Int32} {s1 : Int32} {L : Nat} {w : Bool} {I : Nat → Nat → Int32} {J : Nat → Nat → Int64} {r : cd_Ret} (h : (cd_go 196 8 [.ref 100, .int x1, .int x2, .int 0] [] (cd_mm L w (cd_up I 100 40 s1) J)) = some r) : cd_go 196 5 [.ref 100, .int x1, .int x2, .null] [.int s1, .ref 100] (cd_mm L w I J) = some r := by
  refine cd_q196_5 ?_
  simp only [cd_zwI, cd_zwL, cd_zI, cd_zJ, cd_zcp, true_and, if_true, cd_zk_100]
  exact h
set_option maxRecDepth 1000000 in
set_option maxHeartbeats 8000000 in
theorem cd_s196_8 {x1 : Int32} {x2 : Int32} {x3 : Int32} {L : Nat} {w : Bool} {I : Nat → Nat → Int32} {J : Nat → Nat → Int64} {r : cd_Ret} (h : (if x3 < (I 100 40) then (if cd_in x3 60 = true then (if cd_in x3 60 = true then (if cd_in x3 60 = true then (if cd_in x3 60 = true then (cd_go 196 8 [.ref 100, .int x1, .int x2, .int (x3 + 1)] [] (cd_mm L w (cd_up (cd_up I 120 x3.toNatClampNeg (I 122 x3.toNatClampNeg)) 121 x3.toNatClampNeg ((cd_up I 120 x3.toNatClampNeg (I 122 x3.toNatClampNeg)) 123 x3.toNatClampNeg)) J)) else none) else none) else none) else none) else some (some (.int (I 100 40)), (cd_mm L w I J))) = some r) : cd_go 196 8 [.ref 100, .int x1, .int x2, .int x3] [] (cd_mm L w I J) = some r := by
  refine cd_q196_8 ?_
  simp only [cd_zwI, cd_zwL, cd_zI, cd_zJ, cd_zcp, true_and, if_true, cd_zk_100, cd_zR_100_41, cd_zR_100_43, cd_zk_122, cd_zn_122, cd_zk_120, cd_zn_120, cd_zR_100_42, cd_zR_100_44, cd_zk_123, cd_zn_123, cd_zk_121, cd_zn_121]
  exact h
set_option maxRecDepth 1000000 in
set_option maxHeartbeats 8000000 in
theorem cd_s197_0 {x1 : Int32} {x2 : Int32} {L : Nat} {w : Bool} {I : Nat → Nat → Int32} {J : Nat → Nat → Int64} {r : cd_Ret} (h : (if x1 = (-1) then (if x1 = (-1) then (if x1 = (-1) then ((cd_ci (cd_c 196 [.ref 100, .int x1, .int 0] (cd_mm L w I J))).bind fun q => cd_go 197 26 [.ref 100, .int x1, .int x2] [.int q.1] q.2) else (cd_ci (cd_c 196 [.ref 100, .int x1, .int x2] (cd_mm L w I J))).bind fun q => cd_go 197 26 [.ref 100, .int x1, .int x2] [.int q.1] q.2) else (cd_ci (cd_c 143 [.int x2] (cd_mm L w I J))).bind fun q => cd_go 197 14 [.ref 100, .int x1, .int x2] [.int q.1] q.2) else (cd_ci (cd_c 141 [.ref 100, .int x1] (cd_mm L w I J))).bind fun q => cd_go 197 6 [.ref 100, .int x1, .int x2] [.int q.1] q.2) = some r) : cd_go 197 0 [.ref 100, .int x1, .int x2] [] (cd_mm L w I J) = some r := by
  refine cd_q197_0 ?_
  simp only [cd_zwI, cd_zwL, cd_zI, cd_zJ, cd_zcp, true_and, if_true, cd_zk_100]
  exact h
set_option maxRecDepth 1000000 in
set_option maxHeartbeats 8000000 in
theorem cd_s197_6 {x1 : Int32} {x2 : Int32} {s0 : Int32} {L : Nat} {w : Bool} {I : Nat → Nat → Int32} {J : Nat → Nat → Int64} {r : cd_Ret} (h : (if s0 = 0 then (some (some (.int (-1001)), (cd_mm L w I J))) else if x1 = (-1) then (if x1 = (-1) then ((cd_ci (cd_c 196 [.ref 100, .int x1, .int 0] (cd_mm L w I J))).bind fun q => cd_go 197 26 [.ref 100, .int x1, .int x2] [.int q.1] q.2) else (cd_ci (cd_c 196 [.ref 100, .int x1, .int x2] (cd_mm L w I J))).bind fun q => cd_go 197 26 [.ref 100, .int x1, .int x2] [.int q.1] q.2) else (cd_ci (cd_c 143 [.int x2] (cd_mm L w I J))).bind fun q => cd_go 197 14 [.ref 100, .int x1, .int x2] [.int q.1] q.2) = some r) : cd_go 197 6 [.ref 100, .int x1, .int x2] [.int s0] (cd_mm L w I J) = some r := by
  refine cd_q197_6 ?_
  simp only [cd_zwI, cd_zwL, cd_zI, cd_zJ, cd_zcp, true_and, if_true, cd_zk_100]
  exact h
set_option maxRecDepth 1000000 in
set_option maxHeartbeats 8000000 in
theorem cd_s197_14 {x1 : Int32} {x2 : Int32} {s0 : Int32} {L : Nat} {w : Bool} {I : Nat → Nat → Int32} {J : Nat → Nat → Int64} {r : cd_Ret} (h : (if s0 = 0 then (some (some (.int (-1002)), (cd_mm L w I J))) else if x1 = (-1) then ((cd_ci (cd_c 196 [.ref 100, .int x1, .int 0] (cd_mm L w I J))).bind fun q => cd_go 197 26 [.ref 100, .int x1, .int x2] [.int q.1] q.2) else (cd_ci (cd_c 196 [.ref 100, .int x1, .int x2] (cd_mm L w I J))).bind fun q => cd_go 197 26 [.ref 100, .int x1, .int x2] [.int q.1] q.2) = some r) : cd_go 197 14 [.ref 100, .int x1, .int x2] [.int s0] (cd_mm L w I J) = some r := by
  refine cd_q197_14 ?_
  simp only [cd_zwI, cd_zwL, cd_zI, cd_zJ, cd_zcp, true_and, if_true, cd_zk_100]
  exact h
set_option maxRecDepth 1000000 in
set_option maxHeartbeats 8000000 in
theorem cd_s197_26 {x1 : Int32} {x2 : Int32} {s0 : Int32} {L : Nat} {w : Bool} {I : Nat → Nat → Int32} {J : Nat → Nat → Int64} {r : cd_Ret} (h : (some (some (.int s0), (cd_mm L w I J))) = some r) : cd_go 197 26 [.ref 100, .int x1, .int x2] [.int s0] (cd_mm L w I J) = some r := cd_q197_26 h
set_option maxRecDepth 1000000 in
set_option maxHeartbeats 8000000 in
theorem cd_s198_0 {x1 : Int32} {x2 : Int32} {L : Nat} {w : Bool} {I : Nat → Nat → Int32} {J : Nat → Nat → Int64} {r : cd_Ret} (h : ((cd_ci (cd_c 138 [.long x2.toInt64, .long 0, .long 1] (cd_mm L w I J))).bind fun q => cd_go 198 5 [.ref 100, .int x1, .int x2] [.int q.1] q.2) = some r) : cd_go 198 0 [.ref 100, .int x1, .int x2] [] (cd_mm L w I J) = some r := cd_q198_0 h
set_option maxRecDepth 1000000 in
set_option maxHeartbeats 8000000 in
theorem cd_s198_5 {x1 : Int32} {x2 : Int32} {s0 : Int32} {L : Nat} {w : Bool} {I : Nat → Nat → Int32} {J : Nat → Nat → Int64} {r : cd_Ret} (h : (if s0 = 0 then (some (some (.int (-1002)), (cd_mm L w I J))) else (cd_ci (cd_c 138 [.long x1.toInt64, .long 0, .long (((I 100 40) - 1).toInt64)] (cd_mm L w I J))).bind fun q => cd_go 198 17 [.ref 100, .int x1, .int x2] [.int q.1] q.2) = some r) : cd_go 198 5 [.ref 100, .int x1, .int x2] [.int s0] (cd_mm L w I J) = some r := by
  refine cd_q198_5 ?_
  simp only [cd_zwI, cd_zwL, cd_zI, cd_zJ, cd_zcp, true_and, if_true, cd_zk_100]
  exact h
set_option maxRecDepth 1000000 in
set_option maxHeartbeats 8000000 in
theorem cd_s198_17 {x1 : Int32} {x2 : Int32} {s0 : Int32} {L : Nat} {w : Bool} {I : Nat → Nat → Int32} {J : Nat → Nat → Int64} {r : cd_Ret} (h : (if s0 = 0 then (some (some (.int (-1)), (cd_mm L w I J))) else if x2 = 0 then (if cd_in x1 60 = true then (some (some (.int (I 120 x1.toNatClampNeg)), (cd_mm L w I J))) else none) else if cd_in x1 60 = true then (some (some (.int (I 121 x1.toNatClampNeg)), (cd_mm L w I J))) else none) = some r) : cd_go 198 17 [.ref 100, .int x1, .int x2] [.int s0] (cd_mm L w I J) = some r := by
  refine cd_q198_17 ?_
  simp only [cd_zwI, cd_zwL, cd_zI, cd_zJ, cd_zcp, true_and, if_true, cd_zk_100, cd_zR_100_41, cd_zk_120, cd_zn_120, cd_zR_100_42, cd_zk_121, cd_zn_121]
  exact h
set_option maxRecDepth 1000000 in
set_option maxHeartbeats 8000000 in
theorem cd_s199_0 {L : Nat} {w : Bool} {I : Nat → Nat → Int32} {J : Nat → Nat → Int64} {r : cd_Ret} (h : ((cd_ci (cd_c 193 [.ref 100, .int (-1), .int 0] (cd_mm L w I J))).bind fun q => cd_go 199 4 [.ref 100] [.int q.1] q.2) = some r) : cd_go 199 0 [.ref 100] [] (cd_mm L w I J) = some r := by
  refine cd_q199_0 ?_
  simp only [cd_zwI, cd_zwL, cd_zI, cd_zJ, cd_zcp, true_and, if_true, cd_zk_100]
  exact h
set_option maxRecDepth 1000000 in
set_option maxHeartbeats 8000000 in
theorem cd_s199_4 {s0 : Int32} {L : Nat} {w : Bool} {I : Nat → Nat → Int32} {J : Nat → Nat → Int64} {r : cd_Ret} (h : (if s0 < 0 then (some (some (.int 1), (cd_mm L w I J))) else some (some (.int 0), (cd_mm L w I J))) = some r) : cd_go 199 4 [.ref 100] [.int s0] (cd_mm L w I J) = some r := cd_q199_4 h
set_option maxRecDepth 1000000 in
set_option maxHeartbeats 8000000 in
theorem cd_s200_0 {x1 : Int32} {x2 : Int32} {L : Nat} {w : Bool} {I : Nat → Nat → Int32} {J : Nat → Nat → Int64} {r : cd_Ret} (h : ((cd_ci (cd_c 141 [.ref 100, .int x1] (cd_mm L w I J))).bind fun q => cd_go 200 3 [.ref 100, .int x1, .int x2] [.int q.1] q.2) = some r) : cd_go 200 0 [.ref 100, .int x1, .int x2] [] (cd_mm L w I J) = some r := by
  refine cd_q200_0 ?_
  simp only [cd_zwI, cd_zwL, cd_zI, cd_zJ, cd_zcp, true_and, if_true, cd_zk_100]
  exact h
set_option maxRecDepth 1000000 in
set_option maxHeartbeats 8000000 in
theorem cd_s200_3 {x1 : Int32} {x2 : Int32} {s0 : Int32} {L : Nat} {w : Bool} {I : Nat → Nat → Int32} {J : Nat → Nat → Int64} {r : cd_Ret} (h : (if s0 = 0 then (some (some (.int (-1001)), (cd_mm L w I J))) else (cd_ci (cd_c 143 [.int x2] (cd_mm L w I J))).bind fun q => cd_go 200 8 [.ref 100, .int x1, .int x2] [.int q.1] q.2) = some r) : cd_go 200 3 [.ref 100, .int x1, .int x2] [.int s0] (cd_mm L w I J) = some r := cd_q200_3 h
set_option maxRecDepth 1000000 in
set_option maxHeartbeats 8000000 in
theorem cd_s200_8 {x1 : Int32} {x2 : Int32} {s0 : Int32} {L : Nat} {w : Bool} {I : Nat → Nat → Int32} {J : Nat → Nat → Int64} {r : cd_Ret} (h : (if s0 = 0 then (some (some (.int (-1002)), (cd_mm L w I J))) else (cd_ci (cd_c 193 [.ref 100, .int x1, .int x2] (cd_mm L w I J))).bind fun q => cd_go 200 15 [.ref 100, .int x1, .int x2] [.int q.1] q.2) = some r) : cd_go 200 8 [.ref 100, .int x1, .int x2] [.int s0] (cd_mm L w I J) = some r := by
  refine cd_q200_8 ?_
  simp only [cd_zwI, cd_zwL, cd_zI, cd_zJ, cd_zcp, true_and, if_true, cd_zk_100]
  exact h
set_option maxRecDepth 1000000 in
set_option maxHeartbeats 8000000 in
theorem cd_s200_15 {x1 : Int32} {x2 : Int32} {s0 : Int32} {L : Nat} {w : Bool} {I : Nat → Nat → Int32} {J : Nat → Nat → Int64} {r : cd_Ret} (h : (if s0 < 0 then (some (some (.int 1), (cd_mm L w I J))) else some (some (.int 0), (cd_mm L w I J))) = some r) : cd_go 200 15 [.ref 100, .int x1, .int x2] [.int s0] (cd_mm L w I J) = some r := cd_q200_15 h
set_option maxRecDepth 1000000 in
set_option maxHeartbeats 8000000 in
theorem cd_s201_0 {x1 : Int32} {L : Nat} {w : Bool} {I : Nat → Nat → Int32} {J : Nat → Nat → Int64} {r : cd_Ret} (h : ((cd_ci (cd_c 141 [.ref 100, .int x1] (cd_mm L w I J))).bind fun q => cd_go 201 3 [.ref 100, .int x1, .null] [.int q.1] q.2) = some r) : cd_go 201 0 [.ref 100, .int x1, .null] [] (cd_mm L w I J) = some r := by
  refine cd_q201_0 ?_
  simp only [cd_zwI, cd_zwL, cd_zI, cd_zJ, cd_zcp, true_and, if_true, cd_zk_100]
  exact h
set_option maxRecDepth 1000000 in
set_option maxHeartbeats 8000000 in
theorem cd_s201_3 {x1 : Int32} {s0 : Int32} {L : Nat} {w : Bool} {I : Nat → Nat → Int32} {J : Nat → Nat → Int64} {r : cd_Ret} (h : (if s0 = 0 then (some (some (.int (-1001)), (cd_mm L w I J))) else cd_go 201 8 [.ref 100, .int x1, .int 0] [] (cd_mm L w I J)) = some r) : cd_go 201 3 [.ref 100, .int x1, .null] [.int s0] (cd_mm L w I J) = some r := cd_q201_3 h
set_option maxRecDepth 1000000 in
set_option maxHeartbeats 8000000 in
theorem cd_s201_8 {x1 : Int32} {x2 : Int32} {L : Nat} {w : Bool} {I : Nat → Nat → Int32} {J : Nat → Nat → Int64} {r : cd_Ret} (h : (if 999 < x2 then (some (some (.int (-1)), (cd_mm L w I J))) else (cd_ci (cd_c 193 [.ref 100, .int x1, .int x2] (cd_mm L w I J))).bind fun q => cd_go 201 15 [.ref 100, .int x1, .int x2] [.int q.1] q.2) = some r) : cd_go 201 8 [.ref 100, .int x1, .int x2] [] (cd_mm L w I J) = some r := by
  refine cd_q201_8 ?_
  simp only [cd_zwI, cd_zwL, cd_zI, cd_zJ, cd_zcp, true_and, if_true, cd_zk_100]
  exact h
set_option maxRecDepth 1000000 in
set_option maxHeartbeats 8000000 in
theorem cd_s201_15 {x1 : Int32} {x2 : Int32} {s0 : Int32} {L : Nat} {w : Bool} {I : Nat → Nat → Int32} {J : Nat → Nat → Int64} {r : cd_Ret} (h : (if s0 < 0 then (cd_go 201 8 [.ref 100, .int x1, .int (x2 + 1)] [] (cd_mm L w I J)) else some (some (.int x2), (cd_mm L w I J))) = some r) : cd_go 201 15 [.ref 100, .int x1, .int x2] [.int s0] (cd_mm L w I J) = some r := cd_q201_15 h
set_option maxRecDepth 1000000 in
set_option maxHeartbeats 8000000 in
theorem cd_s202_0 {x1 : Int32} {L : Nat} {w : Bool} {I : Nat → Nat → Int32} {J : Nat → Nat → Int64} {r : cd_Ret} (h : (cd_go 202 4 [.ref 100, .int x1, .int 0, .int 0] [] (cd_mm L w I J)) = some r) : cd_go 202 0 [.ref 100, .int x1, .null, .null] [] (cd_mm L w I J) = some r := cd_q202_0 h
set_option maxRecDepth 1000000 in
set_option maxHeartbeats 8000000 in
theorem cd_s202_4 {x1 : Int32} {x2 : Int32} {x3 : Int32} {L : Nat} {w : Bool} {I : Nat → Nat → Int32} {J : Nat → Nat → Int64} {r : cd_Ret} (h : (if x3 < (I 100 7) then (if x2 = 0 then ((cd_ci (cd_c 150 [.ref 100, .int x3, .int x1] (cd_mm L w I J))).bind fun q => cd_go 202 14 [.ref 100, .int x1, .int x2, .int x3] [.int q.1] q.2) else cd_go 202 4 [.ref 100, .int x1, .int 1, .int (x3 + 1)] [] (cd_mm L w I J)) else if x2 &&& 1 = x2 then some (some (.int x2), (cd_mm L w I J)) else none) = some r) : cd_go 202 4 [.ref 100, .int x1, .int x2, .int x3] [] (cd_mm L w I J) = some r := by
  refine cd_q202_4 ?_
  simp only [cd_zwI, cd_zwL, cd_zI, cd_zJ, cd_zcp, true_and, if_true, cd_zk_100]
  exact h
set_option maxRecDepth 1000000 in
set_option maxHeartbeats 8000000 in
theorem cd_s202_14 {x1 : Int32} {x2 : Int32} {x3 : Int32} {s0 : Int32} {L : Nat} {w : Bool} {I : Nat → Nat → Int32} {J : Nat → Nat → Int64} {r : cd_Ret} (h : (if s0 = 0 then (cd_go 202 4 [.ref 100, .int x1, .int 0, .int (x3 + 1)] [] (cd_mm L w I J)) else cd_go 202 4 [.ref 100, .int x1, .int 1, .int (x3 + 1)] [] (cd_mm L w I J)) = some r) : cd_go 202 14 [.ref 100, .int x1, .int x2, .int x3] [.int s0] (cd_mm L w I J) = some r := cd_q202_14 h
set_option maxRecDepth 1000000 in
set_option maxHeartbeats 8000000 in
theorem cd_s203_0 {x1 : Int32} {L : Nat} {w : Bool} {I : Nat → Nat → Int32} {J : Nat → Nat → Int64} {r : cd_Ret} (h : (cd_go 203 2 [.ref 100, .int x1, .int 0, .null, .null, .null] [] (cd_mm L w I J)) = some r) : cd_go 203 0 [.ref 100, .int x1, .null, .null, .null, .null] [] (cd_mm L w I J) = some r := cd_q203_0 h
set_option maxRecDepth 1000000 in
set_option maxHeartbeats 8000000 in
theorem cd_s203_2 {x1 : Int32} {x2 : Int32} {L : Nat} {w : Bool} {I : Nat → Nat → Int32} {J : Nat → Nat → Int64} {r : cd_Ret} (h : (if x2 < 64 then ((cd_ci (cd_c 190 [.ref 100, .int x2] (cd_mm L w I J))).bind fun q => cd_go 203 11 [.ref 100, .int x1, .int x2, .null, .null, .null] [.int q.1, .int x2, .ref 124] q.2) else cd_go 203 25 [.ref 100, .int x1, .int 1, .null, .null, .null] [] (cd_mm L w I J)) = some r) : cd_go 203 2 [.ref 100, .int x1, .int x2, .null, .null, .null] [] (cd_mm L w I J) = some r := by
  refine cd_q203_2 ?_
  simp only [cd_zwI, cd_zwL, cd_zI, cd_zJ, cd_zcp, true_and, if_true, cd_zk_100, cd_zR_100_45]
  exact h
set_option maxRecDepth 1000000 in
set_option maxHeartbeats 8000000 in
theorem cd_s203_11 {x1 : Int32} {x2 : Int32} {s1 : Int32} {s2 : Int32} {L : Nat} {w : Bool} {I : Nat → Nat → Int32} {J : Nat → Nat → Int64} {r : cd_Ret} (h : (if s2 < x1 then (if cd_in s1 64 = true then (cd_go 203 2 [.ref 100, .int x1, .int (x2 + 1), .null, .null, .null] [] (cd_mm L w (cd_up I 124 s1.toNatClampNeg (-1)) J)) else none) else (cd_ci (cd_c 148 [.ref 100, .int x2] (cd_mm L w I J))).bind fun q => cd_go 203 16 [.ref 100, .int x1, .int x2, .null, .null, .null] [.int q.1, .int s1, .ref 124] q.2) = some r) : cd_go 203 11 [.ref 100, .int x1, .int x2, .null, .null, .null] [.int s2, .int s1, .ref 124] (cd_mm L w I J) = some r := by
  refine cd_q203_11 ?_
  simp only [cd_zwI, cd_zwL, cd_zI, cd_zJ, cd_zcp, true_and, if_true, cd_zk_124, cd_zn_124, cd_zk_100]
  exact h
set_option maxRecDepth 1000000 in
set_option maxHeartbeats 8000000 in
theorem cd_s203_16 {x1 : Int32} {x2 : Int32} {s1 : Int32} {s2 : Int32} {L : Nat} {w : Bool} {I : Nat → Nat → Int32} {J : Nat → Nat → Int64} {r : cd_Ret} (h : (if s2 < 0 then (if cd_in s1 64 = true then (cd_go 203 2 [.ref 100, .int x1, .int (x2 + 1), .null, .null, .null] [] (cd_mm L w (cd_up I 124 s1.toNatClampNeg x2) J)) else none) else if cd_in s1 64 = true then (cd_go 203 2 [.ref 100, .int x1, .int (x2 + 1), .null, .null, .null] [] (cd_mm L w (cd_up I 124 s1.toNatClampNeg (-1)) J)) else none) = some r) : cd_go 203 16 [.ref 100, .int x1, .int x2, .null, .null, .null] [.int s2, .int s1, .ref 124] (cd_mm L w I J) = some r := by
  refine cd_q203_16 ?_
  simp only [cd_zwI, cd_zwL, cd_zI, cd_zJ, cd_zcp, true_and, if_true, cd_zk_124, cd_zn_124]
  exact h
set_option maxRecDepth 1000000 in
set_option maxHeartbeats 8000000 in
theorem cd_s203_25 {x1 : Int32} {x2 : Int32} {w3 : Value} {w4 : Value} {w5 : Value} {L : Nat} {w : Bool} {I : Nat → Nat → Int32} {J : Nat → Nat → Int64} {r : cd_Ret} (h : (if x2 = 0 then (some (none, (cd_mm L w I J))) else cd_go 203 31 [.ref 100, .int x1, .int 0, .int 0, w4, w5] [] (cd_mm L w I J)) = some r) : cd_go 203 25 [.ref 100, .int x1, .int x2, w3, w4, w5] [] (cd_mm L w I J) = some r := cd_q203_25 h
set_option maxRecDepth 1000000 in
set_option maxHeartbeats 8000000 in
theorem cd_s203_31 {x1 : Int32} {x2 : Int32} {x3 : Int32} {w4 : Value} {w5 : Value} {L : Nat} {w : Bool} {I : Nat → Nat → Int32} {J : Nat → Nat → Int64} {r : cd_Ret} (h : (if x3 < 64 then (cd_go 203 36 [.ref 100, .int x1, .int x2, .int x3, .int 0, w5] [] (cd_mm L w I J)) else cd_go 203 25 [.ref 100, .int x1, .int x2, .int x3, w4, w5] [] (cd_mm L w I J)) = some r) : cd_go 203 31 [.ref 100, .int x1, .int x2, .int x3, w4, w5] [] (cd_mm L w I J) = some r := cd_q203_31 h
set_option maxRecDepth 1000000 in
set_option maxHeartbeats 8000000 in
theorem cd_s203_36 {x1 : Int32} {x2 : Int32} {x3 : Int32} {x4 : Int32} {w5 : Value} {L : Nat} {w : Bool} {I : Nat → Nat → Int32} {J : Nat → Nat → Int64} {r : cd_Ret} (h : (if x4 < 4 then ((cd_ci (cd_c 147 [.int x3, .int x4] (cd_mm L w I J))).bind fun q => cd_go 203 42 [.ref 100, .int x1, .int x2, .int x3, .int x4, w5] [.int q.1] q.2) else cd_go 203 31 [.ref 100, .int x1, .int x2, .int (x3 + 1), .int x4, w5] [] (cd_mm L w I J)) = some r) : cd_go 203 36 [.ref 100, .int x1, .int x2, .int x3, .int x4, w5] [] (cd_mm L w I J) = some r := cd_q203_36 h
set_option maxRecDepth 1000000 in
set_option maxHeartbeats 8000000 in
theorem cd_s203_42 {x1 : Int32} {x2 : Int32} {x3 : Int32} {x4 : Int32} {w5 : Value} {s0 : Int32} {L : Nat} {w : Bool} {I : Nat → Nat → Int32} {J : Nat → Nat → Int64} {r : cd_Ret} (h : (if s0 < 0 then (cd_go 203 36 [.ref 100, .int x1, .int x2, .int x3, .int (x4 + 1), .int s0] [] (cd_mm L w I J)) else if cd_in x3 64 = true then (if (I 124 x3.toNatClampNeg) < 0 then (cd_go 203 36 [.ref 100, .int x1, .int x2, .int x3, .int (x4 + 1), .int s0] [] (cd_mm L w I J)) else if cd_in s0 64 = true then (if (I 124 s0.toNatClampNeg) < 0 then (cd_go 203 36 [.ref 100, .int x1, .int x2, .int x3, .int (x4 + 1), .int s0] [] (cd_mm L w I J)) else if cd_in s0 64 = true then (if cd_in x3 64 = true then (if (I 124 s0.toNatClampNeg) < (I 124 x3.toNatClampNeg) then (if cd_in s0 64 = true then (if cd_in x3 64 = true then (cd_go 203 36 [.ref 100, .int x1, .int 1, .int x3, .int (x4 + 1), .int s0] [] (cd_mm L w (cd_up I 124 x3.toNatClampNeg (I 124 s0.toNatClampNeg)) J)) else none) else none) else cd_go 203 36 [.ref 100, .int x1, .int x2, .int x3, .int (x4 + 1), .int s0] [] (cd_mm L w I J)) else none) else none) else none) else none) = some r) : cd_go 203 42 [.ref 100, .int x1, .int x2, .int x3, .int x4, w5] [.int s0] (cd_mm L w I J) = some r := by
  refine cd_q203_42 ?_
  simp only [cd_zwI, cd_zwL, cd_zI, cd_zJ, cd_zcp, true_and, if_true, cd_zk_100, cd_zR_100_45, cd_zk_124, cd_zn_124]
  exact h
set_option maxRecDepth 1000000 in
set_option maxHeartbeats 8000000 in
theorem cd_s204_0 {x1 : Int32} {L : Nat} {w : Bool} {I : Nat → Nat → Int32} {J : Nat → Nat → Int64} {r : cd_Ret} (h : (cd_go 204 4 [.ref 100, .int x1, .int 0, .int 0] [] (cd_mm L w I J)) = some r) : cd_go 204 0 [.ref 100, .int x1, .null, .null] [] (cd_mm L w I J) = some r := cd_q204_0 h
set_option maxRecDepth 1000000 in
set_option maxHeartbeats 8000000 in
theorem cd_s204_4 {x1 : Int32} {x2 : Int32} {x3 : Int32} {L : Nat} {w : Bool} {I : Nat → Nat → Int32} {J : Nat → Nat → Int64} {r : cd_Ret} (h : (if x3 < 64 then (if cd_in x3 64 = true then (if (I 124 x3.toNatClampNeg) = x1 then (cd_go 204 4 [.ref 100, .int x1, .int (x2 + 1), .int (x3 + 1)] [] (cd_mm L w I J)) else cd_go 204 4 [.ref 100, .int x1, .int (x2 + 0), .int (x3 + 1)] [] (cd_mm L w I J)) else none) else some (some (.int x2), (cd_mm L w I J))) = some r) : cd_go 204 4 [.ref 100, .int x1, .int x2, .int x3] [] (cd_mm L w I J) = some r := by
  refine cd_q204_4 ?_
  simp only [cd_zwI, cd_zwL, cd_zI, cd_zJ, cd_zcp, true_and, if_true, cd_zk_100, cd_zR_100_45, cd_zk_124, cd_zn_124]
  exact h
set_option maxRecDepth 1000000 in
set_option maxHeartbeats 8000000 in
theorem cd_s205_0 {x1 : Int32} {L : Nat} {w : Bool} {I : Nat → Nat → Int32} {J : Nat → Nat → Int64} {r : cd_Ret} (h : ((cd_cv (cd_c 203 [.ref 100, .int x1] (cd_mm L w I J))).bind fun m => cd_go 205 3 [.ref 100, .int x1, .null, .null, .null, .null] [] m) = some r) : cd_go 205 0 [.ref 100, .int x1, .null, .null, .null, .null] [] (cd_mm L w I J) = some r := by
  refine cd_q205_0 ?_
  simp only [cd_zwI, cd_zwL, cd_zI, cd_zJ, cd_zcp, true_and, if_true, cd_zk_100]
  exact h
set_option maxRecDepth 1000000 in
set_option maxHeartbeats 8000000 in
theorem cd_s205_3 {x1 : Int32} {L : Nat} {w : Bool} {I : Nat → Nat → Int32} {J : Nat → Nat → Int64} {r : cd_Ret} (h : (cd_go 205 9 [.ref 100, .int x1, .int (-1), .int 0, .int 0, .null] [] (cd_mm L w I J)) = some r) : cd_go 205 3 [.ref 100, .int x1, .null, .null, .null, .null] [] (cd_mm L w I J) = some r := cd_q205_3 h
set_option maxRecDepth 1000000 in
set_option maxHeartbeats 8000000 in
theorem cd_s205_9 {x1 : Int32} {x2 : Int32} {x3 : Int32} {x4 : Int32} {w5 : Value} {L : Nat} {w : Bool} {I : Nat → Nat → Int32} {J : Nat → Nat → Int64} {r : cd_Ret} (h : (if x4 < 64 then (if cd_in x4 64 = true then (if (I 124 x4.toNatClampNeg) = x4 then ((cd_ci (cd_c 204 [.ref 100, .int x4] (cd_mm L w I J))).bind fun q => cd_go 205 21 [.ref 100, .int x1, .int x2, .int x3, .int x4, w5] [.int q.1] q.2) else if x3 < (0 : Int32) then (if x3 < (0 : Int32) then (cd_go 205 9 [.ref 100, .int x1, .int x4, .int 0, .int (x4 + 1), .int 0] [] (cd_mm L w I J)) else cd_go 205 9 [.ref 100, .int x1, .int x4, .int x3, .int (x4 + 1), .int 0] [] (cd_mm L w I J)) else if x3 < (0 : Int32) then (cd_go 205 9 [.ref 100, .int x1, .int x2, .int 0, .int (x4 + 1), .int 0] [] (cd_mm L w I J)) else cd_go 205 9 [.ref 100, .int x1, .int x2, .int x3, .int (x4 + 1), .int 0] [] (cd_mm L w I J)) else none) else some (some (.int x2), (cd_mm L w I J))) = some r) : cd_go 205 9 [.ref 100, .int x1, .int x2, .int x3, .int x4, w5] [] (cd_mm L w I J) = some r := by
  refine cd_q205_9 ?_
  simp only [cd_zwI, cd_zwL, cd_zI, cd_zJ, cd_zcp, true_and, if_true, cd_zk_100, cd_zR_100_45, cd_zk_124, cd_zn_124]
  exact h
set_option maxRecDepth 1000000 in
set_option maxHeartbeats 8000000 in
theorem cd_s205_21 {x1 : Int32} {x2 : Int32} {x3 : Int32} {x4 : Int32} {w5 : Value} {s0 : Int32} {L : Nat} {w : Bool} {I : Nat → Nat → Int32} {J : Nat → Nat → Int64} {r : cd_Ret} (h : (if x3 < s0 then (if x3 < s0 then (cd_go 205 9 [.ref 100, .int x1, .int x4, .int s0, .int (x4 + 1), .int s0] [] (cd_mm L w I J)) else cd_go 205 9 [.ref 100, .int x1, .int x4, .int x3, .int (x4 + 1), .int s0] [] (cd_mm L w I J)) else if x3 < s0 then (cd_go 205 9 [.ref 100, .int x1, .int x2, .int s0, .int (x4 + 1), .int s0] [] (cd_mm L w I J)) else cd_go 205 9 [.ref 100, .int x1, .int x2, .int x3, .int (x4 + 1), .int s0] [] (cd_mm L w I J)) = some r) : cd_go 205 21 [.ref 100, .int x1, .int x2, .int x3, .int x4, w5] [.int s0] (cd_mm L w I J) = some r := cd_q205_21 h
set_option maxRecDepth 1000000 in
set_option maxHeartbeats 8000000 in
theorem cd_s206_0 {x1 : Int32} {L : Nat} {w : Bool} {I : Nat → Nat → Int32} {J : Nat → Nat → Int64} {r : cd_Ret} (h : (cd_go 206 4 [.ref 100, .int x1, .int 100, .int 0, .null] [] (cd_mm L w I J)) = some r) : cd_go 206 0 [.ref 100, .int x1, .null, .null, .null] [] (cd_mm L w I J) = some r := cd_q206_0 h
set_option maxRecDepth 1000000 in
set_option maxHeartbeats 8000000 in
theorem cd_s206_4 {x1 : Int32} {x2 : Int32} {x3 : Int32} {w4 : Value} {L : Nat} {w : Bool} {I : Nat → Nat → Int32} {J : Nat → Nat → Int64} {r : cd_Ret} (h : (if x3 < 64 then ((cd_ci (cd_c 202 [.ref 100, .int x3] (cd_mm L w I J))).bind fun q => cd_go 206 10 [.ref 100, .int x1, .int x2, .int x3, w4] [.int q.1] q.2) else if ((I 100 15) - ((I 100 16) * x2)) < 0 then (some (some (.int 0), (cd_mm L w I J))) else some (some (.int ((I 100 15) - ((I 100 16) * x2))), (cd_mm L w I J))) = some r) : cd_go 206 4 [.ref 100, .int x1, .int x2, .int x3, w4] [] (cd_mm L w I J) = some r := by
  refine cd_q206_4 ?_
  simp only [cd_zwI, cd_zwL, cd_zI, cd_zJ, cd_zcp, true_and, if_true, cd_zk_100]
  exact h
set_option maxRecDepth 1000000 in
set_option maxHeartbeats 8000000 in
theorem cd_s206_10 {x1 : Int32} {x2 : Int32} {x3 : Int32} {w4 : Value} {s0 : Int32} {L : Nat} {w : Bool} {I : Nat → Nat → Int32} {J : Nat → Nat → Int64} {r : cd_Ret} (h : (if s0 = 0 then ((cd_ci (cd_c 146 [.int x1, .int x3] (cd_mm L w I J))).bind fun q => cd_go 206 16 [.ref 100, .int x1, .int x2, .int x3, w4] [.int q.1] q.2) else cd_go 206 16 [.ref 100, .int x1, .int x2, .int x3, w4] [.int 100] (cd_mm L w I J)) = some r) : cd_go 206 10 [.ref 100, .int x1, .int x2, .int x3, w4] [.int s0] (cd_mm L w I J) = some r := cd_q206_10 h
set_option maxRecDepth 1000000 in
set_option maxHeartbeats 8000000 in
theorem cd_s206_16 {x1 : Int32} {x2 : Int32} {x3 : Int32} {w4 : Value} {s0 : Int32} {L : Nat} {w : Bool} {I : Nat → Nat → Int32} {J : Nat → Nat → Int64} {r : cd_Ret} (h : (if s0 < x2 then (cd_go 206 4 [.ref 100, .int x1, .int s0, .int (x3 + 1), .int s0] [] (cd_mm L w I J)) else cd_go 206 4 [.ref 100, .int x1, .int x2, .int (x3 + 1), .int s0] [] (cd_mm L w I J)) = some r) : cd_go 206 16 [.ref 100, .int x1, .int x2, .int x3, w4] [.int s0] (cd_mm L w I J) = some r := cd_q206_16 h
set_option maxRecDepth 1000000 in
set_option maxHeartbeats 8000000 in
theorem cd_s207_0 {x1 : Int32} {L : Nat} {w : Bool} {I : Nat → Nat → Int32} {J : Nat → Nat → Int64} {r : cd_Ret} (h : (cd_go 207 4 [.ref 100, .int x1, .int 0, .int 0, .null] [] (cd_mm L w I J)) = some r) : cd_go 207 0 [.ref 100, .int x1, .null, .null, .null] [] (cd_mm L w I J) = some r := cd_q207_0 h
set_option maxRecDepth 1000000 in
set_option maxHeartbeats 8000000 in
theorem cd_s207_4 {x1 : Int32} {x2 : Int32} {x3 : Int32} {w4 : Value} {L : Nat} {w : Bool} {I : Nat → Nat → Int32} {J : Nat → Nat → Int64} {r : cd_Ret} (h : (if x3 < 4 then ((cd_ci (cd_c 147 [.int x1, .int x3] (cd_mm L w I J))).bind fun q => cd_go 207 10 [.ref 100, .int x1, .int x2, .int x3, w4] [.int q.1] q.2) else if x2 &&& 1 = x2 then some (some (.int x2), (cd_mm L w I J)) else none) = some r) : cd_go 207 4 [.ref 100, .int x1, .int x2, .int x3, w4] [] (cd_mm L w I J) = some r := cd_q207_4 h
set_option maxRecDepth 1000000 in
set_option maxHeartbeats 8000000 in
theorem cd_s207_10 {x1 : Int32} {x2 : Int32} {x3 : Int32} {w4 : Value} {s0 : Int32} {L : Nat} {w : Bool} {I : Nat → Nat → Int32} {J : Nat → Nat → Int64} {r : cd_Ret} (h : (if x2 = 0 then (if s0 < 0 then (cd_go 207 4 [.ref 100, .int x1, .int 0, .int (x3 + 1), .int s0] [] (cd_mm L w I J)) else (cd_ci (cd_c 148 [.ref 100, .int s0] (cd_mm L w I J))).bind fun q => cd_go 207 18 [.ref 100, .int x1, .int x2, .int x3, .int s0] [.int q.1] q.2) else cd_go 207 4 [.ref 100, .int x1, .int 1, .int (x3 + 1), .int s0] [] (cd_mm L w I J)) = some r) : cd_go 207 10 [.ref 100, .int x1, .int x2, .int x3, w4] [.int s0] (cd_mm L w I J) = some r := by
  refine cd_q207_10 ?_
  simp only [cd_zwI, cd_zwL, cd_zI, cd_zJ, cd_zcp, true_and, if_true, cd_zk_100]
  exact h
set_option maxRecDepth 1000000 in
set_option maxHeartbeats 8000000 in
theorem cd_s207_18 {x1 : Int32} {x2 : Int32} {x3 : Int32} {x4 : Int32} {s0 : Int32} {L : Nat} {w : Bool} {I : Nat → Nat → Int32} {J : Nat → Nat → Int64} {r : cd_Ret} (h : (if s0 < 0 then ((cd_ci (cd_c 202 [.ref 100, .int x4] (cd_mm L w I J))).bind fun q => cd_go 207 22 [.ref 100, .int x1, .int x2, .int x3, .int x4] [.int q.1] q.2) else cd_go 207 4 [.ref 100, .int x1, .int 0, .int (x3 + 1), .int x4] [] (cd_mm L w I J)) = some r) : cd_go 207 18 [.ref 100, .int x1, .int x2, .int x3, .int x4] [.int s0] (cd_mm L w I J) = some r := by
  refine cd_q207_18 ?_
  simp only [cd_zwI, cd_zwL, cd_zI, cd_zJ, cd_zcp, true_and, if_true, cd_zk_100]
  exact h
set_option maxRecDepth 1000000 in
set_option maxHeartbeats 8000000 in
theorem cd_s207_22 {x1 : Int32} {x2 : Int32} {x3 : Int32} {x4 : Int32} {s0 : Int32} {L : Nat} {w : Bool} {I : Nat → Nat → Int32} {J : Nat → Nat → Int64} {r : cd_Ret} (h : (if s0 = 0 then (cd_go 207 4 [.ref 100, .int x1, .int 1, .int (x3 + 1), .int x4] [] (cd_mm L w I J)) else cd_go 207 4 [.ref 100, .int x1, .int 0, .int (x3 + 1), .int x4] [] (cd_mm L w I J)) = some r) : cd_go 207 22 [.ref 100, .int x1, .int x2, .int x3, .int x4] [.int s0] (cd_mm L w I J) = some r := cd_q207_22 h
set_option maxRecDepth 1000000 in
set_option maxHeartbeats 8000000 in
theorem cd_s208_0 {x1 : Int32} {L : Nat} {w : Bool} {I : Nat → Nat → Int32} {J : Nat → Nat → Int64} {r : cd_Ret} (h : (cd_go 208 4 [.ref 100, .int x1, .int 0, .int 0] [] (cd_mm L w I J)) = some r) : cd_go 208 0 [.ref 100, .int x1, .null, .null] [] (cd_mm L w I J) = some r := cd_q208_0 h
set_option maxRecDepth 1000000 in
set_option maxHeartbeats 8000000 in
theorem cd_s208_4 {x1 : Int32} {x2 : Int32} {x3 : Int32} {L : Nat} {w : Bool} {I : Nat → Nat → Int32} {J : Nat → Nat → Int64} {r : cd_Ret} (h : (if x3 < 64 then (if x1 < 0 then (some (some (.int x2), (cd_mm L w I J))) else if cd_in x3 64 = true then (if (I 124 x3.toNatClampNeg) = x1 then ((cd_ci (cd_c 207 [.ref 100, .int x3] (cd_mm L w I J))).bind fun q => cd_go 208 19 [.ref 100, .int x1, .int x2, .int x3] [.int q.1, .int x2] q.2) else cd_go 208 4 [.ref 100, .int x1, .int (x2 + 0), .int (x3 + 1)] [] (cd_mm L w I J)) else none) else some (some (.int x2), (cd_mm L w I J))) = some r) : cd_go 208 4 [.ref 100, .int x1, .int x2, .int x3] [] (cd_mm L w I J) = some r := by
  refine cd_q208_4 ?_
  simp only [cd_zwI, cd_zwL, cd_zI, cd_zJ, cd_zcp, true_and, if_true, cd_zk_100, cd_zR_100_45, cd_zk_124, cd_zn_124]
  exact h
set_option maxRecDepth 1000000 in
set_option maxHeartbeats 8000000 in
theorem cd_s208_19 {x1 : Int32} {x2 : Int32} {x3 : Int32} {s0 : Int32} {s1 : Int32} {L : Nat} {w : Bool} {I : Nat → Nat → Int32} {J : Nat → Nat → Int64} {r : cd_Ret} (h : (if s1 = 0 then (cd_go 208 4 [.ref 100, .int x1, .int (s0 + 0), .int (x3 + 1)] [] (cd_mm L w I J)) else cd_go 208 4 [.ref 100, .int x1, .int (s0 + 1), .int (x3 + 1)] [] (cd_mm L w I J)) = some r) : cd_go 208 19 [.ref 100, .int x1, .int x2, .int x3] [.int s1, .int s0] (cd_mm L w I J) = some r := cd_q208_19 h
set_option maxRecDepth 1000000 in
set_option maxHeartbeats 8000000 in
theorem cd_s209_0 {x1 : Int32} {L : Nat} {w : Bool} {I : Nat → Nat → Int32} {J : Nat → Nat → Int64} {r : cd_Ret} (h : (if x1 < 0 then (cd_go 209 8 [.ref 100, .int x1, .int (-1), .int 0, .null] [] (cd_mm L w I J)) else cd_go 209 8 [.ref 100, .int x1, .int 0, .int 0, .null] [] (cd_mm L w I J)) = some r) : cd_go 209 0 [.ref 100, .int x1, .null, .null, .null] [] (cd_mm L w I J) = some r := cd_q209_0 h
set_option maxRecDepth 1000000 in
set_option maxHeartbeats 8000000 in
theorem cd_s209_8 {x1 : Int32} {x2 : Int32} {x3 : Int32} {w4 : Value} {L : Nat} {w : Bool} {I : Nat → Nat → Int32} {J : Nat → Nat → Int64} {r : cd_Ret} (h : (if x3 < 64 then (if x1 < 0 then (some (some (.int x2), (cd_mm L w I J))) else if cd_in x3 64 = true then (if (I 124 x3.toNatClampNeg) = x1 then ((cd_ci (cd_c 206 [.ref 100, .int x3] (cd_mm L w I J))).bind fun q => cd_go 209 22 [.ref 100, .int x1, .int x2, .int x3, w4] [.int q.1] q.2) else if x2 < (0 : Int32) then (cd_go 209 8 [.ref 100, .int x1, .int 0, .int (x3 + 1), .int 0] [] (cd_mm L w I J)) else cd_go 209 8 [.ref 100, .int x1, .int x2, .int (x3 + 1), .int 0] [] (cd_mm L w I J)) else none) else some (some (.int x2), (cd_mm L w I J))) = some r) : cd_go 209 8 [.ref 100, .int x1, .int x2, .int x3, w4] [] (cd_mm L w I J) = some r := by
  refine cd_q209_8 ?_
  simp only [cd_zwI, cd_zwL, cd_zI, cd_zJ, cd_zcp, true_and, if_true, cd_zk_100, cd_zR_100_45, cd_zk_124, cd_zn_124]
  exact h
set_option maxRecDepth 1000000 in
set_option maxHeartbeats 8000000 in
theorem cd_s209_22 {x1 : Int32} {x2 : Int32} {x3 : Int32} {w4 : Value} {s0 : Int32} {L : Nat} {w : Bool} {I : Nat → Nat → Int32} {J : Nat → Nat → Int64} {r : cd_Ret} (h : (if x2 < s0 then (cd_go 209 8 [.ref 100, .int x1, .int s0, .int (x3 + 1), .int s0] [] (cd_mm L w I J)) else cd_go 209 8 [.ref 100, .int x1, .int x2, .int (x3 + 1), .int s0] [] (cd_mm L w I J)) = some r) : cd_go 209 22 [.ref 100, .int x1, .int x2, .int x3, w4] [.int s0] (cd_mm L w I J) = some r := cd_q209_22 h
