set_option maxRecDepth 1000000 in
set_option maxHeartbeats 8000000 in
theorem cd_s42_0 {L : Nat} {w : Bool} {I : Nat → Nat → Int32} {J : Nat → Nat → Int64} {r : cd_Ret} (h : ((cd_cv (cd_c 17 [.ref 3] (cd_mm L w I J))).bind fun m => cd_go 42 3 [.ref 2, .null, .null] [] m) = some r) : cd_go 42 0 [.ref 2, .null, .null] [] (cd_mm L w I J) = some r := by
  refine cd_q42_0 ?_
  simp only [cd_zwI, cd_zwL, cd_zI, cd_zJ, cd_zcp, true_and, if_true, cd_zk_2, cd_zR_2_0, cd_zk_3]
  exact h
set_option maxRecDepth 1000000 in
set_option maxHeartbeats 8000000 in
theorem cd_s42_3 {L : Nat} {w : Bool} {I : Nat → Nat → Int32} {J : Nat → Nat → Int64} {r : cd_Ret} (h : ((cd_cv (cd_c 38 [.ref (cd_plr w), .ref 3] (cd_mm L w I J))).bind fun m => cd_go 42 8 [.ref 2, .null, .null] [] m) = some r) : cd_go 42 3 [.ref 2, .null, .null] [] (cd_mm L w I J) = some r := by
  refine cd_q42_3 ?_
  simp only [cd_zwI, cd_zwL, cd_zI, cd_zJ, cd_zcp, true_and, if_true, cd_zk_2, cd_zR_2_13, cd_zR_2_0, cd_zk_r0_]
  exact h
set_option maxRecDepth 1000000 in
set_option maxHeartbeats 8000000 in
theorem cd_s42_43 {L : Nat} {w : Bool} {I : Nat → Nat → Int32} {J : Nat → Nat → Int64} {r : cd_Ret} (h : (cd_go 42 49 [.ref 2, .ref (cd_ple w), .int 0] [] (cd_mm L w (cd_up I 42 2 0) J)) = some r) : cd_go 42 43 [.ref 2, .ref (cd_ple w), .null] [] (cd_mm L w I J) = some r := by
  refine cd_q42_43 ?_
  simp only [cd_zwI, cd_zwL, cd_zI, cd_zJ, cd_zcp, true_and, if_true, cd_zk_2, cd_zR_2_5, cd_zk_42]
  exact h
set_option maxRecDepth 1000000 in
set_option maxHeartbeats 8000000 in
theorem cd_s42_49 {x2 : Int32} {L : Nat} {w : Bool} {I : Nat → Nat → Int32} {J : Nat → Nat → Int64} {r : cd_Ret} (h : (if x2 < 2 then (if cd_in x2 2 = true then (cd_go 42 49 [.ref 2, .ref (cd_ple w), .int (x2 + 1)] [] (cd_mm L w (cd_up I 58 x2.toNatClampNeg 0) J)) else none) else (cd_cv (cd_c 40 [.ref 6] (cd_mm L w I J))).bind fun m => cd_go 42 63 [.ref 2, .ref (cd_ple w), .int x2] [] m) = some r) : cd_go 42 49 [.ref 2, .ref (cd_ple w), .int x2] [] (cd_mm L w I J) = some r := by
  refine cd_q42_49 ?_
  simp only [cd_zwI, cd_zwL, cd_zI, cd_zJ, cd_zcp, true_and, if_true, cd_zk_2, cd_zR_2_8, cd_zk_58, cd_zn_58, cd_zR_2_1, cd_zk_5, cd_zR_5_0, cd_zk_6]
  exact h
set_option maxRecDepth 1000000 in
set_option maxHeartbeats 8000000 in
theorem cd_s42_63 {x2 : Int32} {L : Nat} {w : Bool} {I : Nat → Nat → Int32} {J : Nat → Nat → Int64} {r : cd_Ret} (h : ((cd_cv (cd_c 41 [.ref 21] (cd_mm L w I J))).bind fun m => cd_go 42 66 [.ref 2, .ref (cd_ple w), .int x2] [] m) = some r) : cd_go 42 63 [.ref 2, .ref (cd_ple w), .int x2] [] (cd_mm L w I J) = some r := by
  refine cd_q42_63 ?_
  simp only [cd_zwI, cd_zwL, cd_zI, cd_zJ, cd_zcp, true_and, if_true, cd_zk_2, cd_zR_2_2, cd_zk_21]
  exact h
set_option maxRecDepth 1000000 in
set_option maxHeartbeats 8000000 in
theorem cd_s42_66 {x2 : Int32} {L : Nat} {w : Bool} {I : Nat → Nat → Int32} {J : Nat → Nat → Int64} {r : cd_Ret} (h : (some (some (.int (I (cd_ple w) 2)), (cd_mm L w I J))) = some r) : cd_go 42 66 [.ref 2, .ref (cd_ple w), .int x2] [] (cd_mm L w I J) = some r := by
  refine cd_q42_66 ?_
  simp only [cd_zwI, cd_zwL, cd_zI, cd_zJ, cd_zcp, true_and, if_true, cd_zk_2, cd_zR_2_12, cd_zk_w0_]
  exact h
set_option maxRecDepth 1000000 in
set_option maxHeartbeats 8000000 in
theorem cd_s43_0 {v : Nat} (hv : v = 61 ∨ v = 62 ∨ v = 63 ∨ v = 64 ∨ v = 65) {L : Nat} {w : Bool} {I : Nat → Nat → Int32} {J : Nat → Nat → Int64} {r : cd_Ret} (h : ((cd_ci (cd_c 21 [.ref 3, .ref 1010] (cd_mm L w I J))).bind fun q => cd_go 43 3 [.ref v, .ref 3] [.int q.1] q.2) = some r) : cd_go 43 0 [.ref v, .ref 3] [] (cd_mm L w I J) = some r := by
  refine cd_q43_0 ?_
  simp only [cd_zwI, cd_zwL, cd_zI, cd_zJ, cd_zcp, true_and, if_true, cd_zk_3]
  exact h
set_option maxRecDepth 1000000 in
set_option maxHeartbeats 8000000 in
theorem cd_s43_3 {s0 : Int32} {v : Nat} (hv : v = 61 ∨ v = 62 ∨ v = 63 ∨ v = 64 ∨ v = 65) {L : Nat} {w : Bool} {I : Nat → Nat → Int32} {J : Nat → Nat → Int64} {r : cd_Ret} (h : (if s0 = 0 then ((cd_cv (cd_c 22 [.ref 3, .int 1, .int (I 3 4)] (cd_mm L w I J))).bind fun m => cd_go 43 9 [.ref v, .ref 3] [] m) else cd_go 43 9 [.ref v, .ref 3] [] (cd_mm L w I J)) = some r) : cd_go 43 3 [.ref v, .ref 3] [.int s0] (cd_mm L w I J) = some r := by
  refine cd_q43_3 ?_
  simp only [cd_zwI, cd_zwL, cd_zI, cd_zJ, cd_zcp, true_and, if_true, cd_zk_3]
  exact h
set_option maxRecDepth 1000000 in
set_option maxHeartbeats 8000000 in
theorem cd_s43_9 {v : Nat} (hv : v = 61 ∨ v = 62 ∨ v = 63 ∨ v = 64 ∨ v = 65) {L : Nat} {w : Bool} {I : Nat → Nat → Int32} {J : Nat → Nat → Int64} {r : cd_Ret} (h : ((cd_ci (cd_c 23 [.ref 3, .int 0, .int 64] (cd_mm L w I J))).bind fun q => cd_go 43 14 [.ref v, .ref 3] [.int q.1, .ref v] q.2) = some r) : cd_go 43 9 [.ref v, .ref 3] [] (cd_mm L w I J) = some r := by
  refine cd_q43_9 ?_
  simp only [cd_zwI, cd_zwL, cd_zI, cd_zJ, cd_zcp, true_and, if_true, cd_zk_3]
  exact h
set_option maxRecDepth 1000000 in
set_option maxHeartbeats 8000000 in
theorem cd_s43_14 {s1 : Int32} {v : Nat} (hv : v = 61 ∨ v = 62 ∨ v = 63 ∨ v = 64 ∨ v = 65) {L : Nat} {w : Bool} {I : Nat → Nat → Int32} {J : Nat → Nat → Int64} {r : cd_Ret} (h : ((cd_ci (cd_c 21 [.ref 3, .ref 1011] (cd_mm L w (cd_up I v 0 s1) J))).bind fun q => cd_go 43 19 [.ref v, .ref 3] [.int q.1, .ref v] q.2) = some r) : cd_go 43 14 [.ref v, .ref 3] [.int s1, .ref v] (cd_mm L w I J) = some r := by
  refine cd_q43_14 ?_
  simp only [cd_zwI, cd_zwL, cd_zI, cd_zJ, cd_zcp, true_and, if_true, cd_zk_v0_61_62_63_64_65 hv, cd_zk_3]
  exact h
set_option maxRecDepth 1000000 in
set_option maxHeartbeats 8000000 in
theorem cd_s43_19 {s1 : Int32} {v : Nat} (hv : v = 61 ∨ v = 62 ∨ v = 63 ∨ v = 64 ∨ v = 65) {L : Nat} {w : Bool} {I : Nat → Nat → Int32} {J : Nat → Nat → Int64} {r : cd_Ret} (h : (if s1 = 0 then ((cd_ci (cd_c 21 [.ref 3, .ref 1012] (cd_mm L w (cd_up I v 1 5) J))).bind fun q => cd_go 43 31 [.ref v, .ref 3] [.int q.1, .ref v] q.2) else (cd_ci (cd_c 23 [.ref 3, .int 1, .int 20] (cd_mm L w I J))).bind fun q => cd_go 43 24 [.ref v, .ref 3] [.int q.1, .ref v] q.2) = some r) : cd_go 43 19 [.ref v, .ref 3] [.int s1, .ref v] (cd_mm L w I J) = some r := by
  refine cd_q43_19 ?_
  simp only [cd_zwI, cd_zwL, cd_zI, cd_zJ, cd_zcp, true_and, if_true, cd_zk_v0_61_62_63_64_65 hv, cd_zk_3]
  exact h
set_option maxRecDepth 1000000 in
set_option maxHeartbeats 8000000 in
theorem cd_s43_24 {s1 : Int32} {v : Nat} (hv : v = 61 ∨ v = 62 ∨ v = 63 ∨ v = 64 ∨ v = 65) {L : Nat} {w : Bool} {I : Nat → Nat → Int32} {J : Nat → Nat → Int64} {r : cd_Ret} (h : ((cd_ci (cd_c 21 [.ref 3, .ref 1012] (cd_mm L w (cd_up I v 1 s1) J))).bind fun q => cd_go 43 31 [.ref v, .ref 3] [.int q.1, .ref v] q.2) = some r) : cd_go 43 24 [.ref v, .ref 3] [.int s1, .ref v] (cd_mm L w I J) = some r := by
  refine cd_q43_24 ?_
  simp only [cd_zwI, cd_zwL, cd_zI, cd_zJ, cd_zcp, true_and, if_true, cd_zk_v0_61_62_63_64_65 hv, cd_zk_3]
  exact h
set_option maxRecDepth 1000000 in
set_option maxHeartbeats 8000000 in
theorem cd_s43_31 {s1 : Int32} {v : Nat} (hv : v = 61 ∨ v = 62 ∨ v = 63 ∨ v = 64 ∨ v = 65) {L : Nat} {w : Bool} {I : Nat → Nat → Int32} {J : Nat → Nat → Int64} {r : cd_Ret} (h : (if s1 = 0 then ((cd_ci (cd_c 21 [.ref 3, .ref 1013] (cd_mm L w (cd_up I v 2 99) J))).bind fun q => cd_go 43 43 [.ref v, .ref 3] [.int q.1, .ref v] q.2) else (cd_ci (cd_c 23 [.ref 3, .int 0, .int 99] (cd_mm L w I J))).bind fun q => cd_go 43 36 [.ref v, .ref 3] [.int q.1, .ref v] q.2) = some r) : cd_go 43 31 [.ref v, .ref 3] [.int s1, .ref v] (cd_mm L w I J) = some r := by
  refine cd_q43_31 ?_
  simp only [cd_zwI, cd_zwL, cd_zI, cd_zJ, cd_zcp, true_and, if_true, cd_zk_v0_61_62_63_64_65 hv, cd_zk_3]
  exact h
set_option maxRecDepth 1000000 in
set_option maxHeartbeats 8000000 in
theorem cd_s43_36 {s1 : Int32} {v : Nat} (hv : v = 61 ∨ v = 62 ∨ v = 63 ∨ v = 64 ∨ v = 65) {L : Nat} {w : Bool} {I : Nat → Nat → Int32} {J : Nat → Nat → Int64} {r : cd_Ret} (h : ((cd_ci (cd_c 21 [.ref 3, .ref 1013] (cd_mm L w (cd_up I v 2 s1) J))).bind fun q => cd_go 43 43 [.ref v, .ref 3] [.int q.1, .ref v] q.2) = some r) : cd_go 43 36 [.ref v, .ref 3] [.int s1, .ref v] (cd_mm L w I J) = some r := by
  refine cd_q43_36 ?_
  simp only [cd_zwI, cd_zwL, cd_zI, cd_zJ, cd_zcp, true_and, if_true, cd_zk_v0_61_62_63_64_65 hv, cd_zk_3]
  exact h
set_option maxRecDepth 1000000 in
set_option maxHeartbeats 8000000 in
theorem cd_s43_43 {s1 : Int32} {v : Nat} (hv : v = 61 ∨ v = 62 ∨ v = 63 ∨ v = 64 ∨ v = 65) {L : Nat} {w : Bool} {I : Nat → Nat → Int32} {J : Nat → Nat → Int64} {r : cd_Ret} (h : (if s1 &&& 1 = s1 then ((cd_ci (cd_c 21 [.ref 3, .ref 1014] (cd_mm L w (cd_up I v 3 s1) J))).bind fun q => cd_go 43 48 [.ref v, .ref 3] [.int q.1, .ref v] q.2) else none) = some r) : cd_go 43 43 [.ref v, .ref 3] [.int s1, .ref v] (cd_mm L w I J) = some r := by
  refine cd_q43_43 ?_
  simp only [cd_zwI, cd_zwL, cd_zI, cd_zJ, cd_zcp, true_and, if_true, cd_zk_v0_61_62_63_64_65 hv, cd_zk_3]
  exact h
set_option maxRecDepth 1000000 in
set_option maxHeartbeats 8000000 in
theorem cd_s43_48 {s1 : Int32} {v : Nat} (hv : v = 61 ∨ v = 62 ∨ v = 63 ∨ v = 64 ∨ v = 65) {L : Nat} {w : Bool} {I : Nat → Nat → Int32} {J : Nat → Nat → Int64} {r : cd_Ret} (h : (if s1 &&& 1 = s1 then ((cd_ci (cd_c 19 [.ref 3] (cd_mm L w (cd_up I v 4 s1) J))).bind fun q => cd_go 43 51 [.ref v, .ref 3] [.int q.1] q.2) else none) = some r) : cd_go 43 48 [.ref v, .ref 3] [.int s1, .ref v] (cd_mm L w I J) = some r := by
  refine cd_q43_48 ?_
  simp only [cd_zwI, cd_zwL, cd_zI, cd_zJ, cd_zcp, true_and, if_true, cd_zk_v0_61_62_63_64_65 hv, cd_zk_3]
  exact h
set_option maxRecDepth 1000000 in
set_option maxHeartbeats 8000000 in
theorem cd_s43_51 {s0 : Int32} {v : Nat} (hv : v = 61 ∨ v = 62 ∨ v = 63 ∨ v = 64 ∨ v = 65) {L : Nat} {w : Bool} {I : Nat → Nat → Int32} {J : Nat → Nat → Int64} {r : cd_Ret} (h : (if s0 = 0 then (cd_go 43 57 [.ref v, .ref 3] [] (cd_mm L w I J)) else (cd_cv (cd_c 22 [.ref 3, .int 1, .int (I 3 4)] (cd_mm L w I J))).bind fun m => cd_go 43 57 [.ref v, .ref 3] [] m) = some r) : cd_go 43 51 [.ref v, .ref 3] [.int s0] (cd_mm L w I J) = some r := by
  refine cd_q43_51 ?_
  simp only [cd_zwI, cd_zwL, cd_zI, cd_zJ, cd_zcp, true_and, if_true, cd_zk_3]
  exact h
set_option maxRecDepth 1000000 in
set_option maxHeartbeats 8000000 in
theorem cd_s43_57 {v : Nat} (hv : v = 61 ∨ v = 62 ∨ v = 63 ∨ v = 64 ∨ v = 65) {L : Nat} {w : Bool} {I : Nat → Nat → Int32} {J : Nat → Nat → Int64} {r : cd_Ret} (h : (some (none, (cd_mm L w I J))) = some r) : cd_go 43 57 [.ref v, .ref 3] [] (cd_mm L w I J) = some r := cd_q43_57 h
set_option maxRecDepth 1000000 in
set_option maxHeartbeats 8000000 in
theorem cd_s44_0 {v : Nat} (hv : v = 61 ∨ v = 62 ∨ v = 63 ∨ v = 64 ∨ v = 65) {L : Nat} {w : Bool} {I : Nat → Nat → Int32} {J : Nat → Nat → Int64} {r : cd_Ret} (h : (if ((cd_up (cd_up (cd_up I v 0 (I 65 0)) v 1 ((cd_up I v 0 (I 65 0)) 65 1)) v 2 ((cd_up (cd_up I v 0 (I 65 0)) v 1 ((cd_up I v 0 (I 65 0)) 65 1)) 65 2)) 65 3) &&& 1 = ((cd_up (cd_up (cd_up I v 0 (I 65 0)) v 1 ((cd_up I v 0 (I 65 0)) 65 1)) v 2 ((cd_up (cd_up I v 0 (I 65 0)) v 1 ((cd_up I v 0 (I 65 0)) 65 1)) 65 2)) 65 3) then (if ((cd_up (cd_up (cd_up (cd_up I v 0 (I 65 0)) v 1 ((cd_up I v 0 (I 65 0)) 65 1)) v 2 ((cd_up (cd_up I v 0 (I 65 0)) v 1 ((cd_up I v 0 (I 65 0)) 65 1)) 65 2)) v 3 ((cd_up (cd_up (cd_up I v 0 (I 65 0)) v 1 ((cd_up I v 0 (I 65 0)) 65 1)) v 2 ((cd_up (cd_up I v 0 (I 65 0)) v 1 ((cd_up I v 0 (I 65 0)) 65 1)) 65 2)) 65 3)) 65 4) &&& 1 = ((cd_up (cd_up (cd_up (cd_up I v 0 (I 65 0)) v 1 ((cd_up I v 0 (I 65 0)) 65 1)) v 2 ((cd_up (cd_up I v 0 (I 65 0)) v 1 ((cd_up I v 0 (I 65 0)) 65 1)) 65 2)) v 3 ((cd_up (cd_up (cd_up I v 0 (I 65 0)) v 1 ((cd_up I v 0 (I 65 0)) 65 1)) v 2 ((cd_up (cd_up I v 0 (I 65 0)) v 1 ((cd_up I v 0 (I 65 0)) 65 1)) 65 2)) 65 3)) 65 4) then (some (none, (cd_mm L w (cd_up (cd_up (cd_up (cd_up (cd_up I v 0 (I 65 0)) v 1 ((cd_up I v 0 (I 65 0)) 65 1)) v 2 ((cd_up (cd_up I v 0 (I 65 0)) v 1 ((cd_up I v 0 (I 65 0)) 65 1)) 65 2)) v 3 ((cd_up (cd_up (cd_up I v 0 (I 65 0)) v 1 ((cd_up I v 0 (I 65 0)) 65 1)) v 2 ((cd_up (cd_up I v 0 (I 65 0)) v 1 ((cd_up I v 0 (I 65 0)) 65 1)) 65 2)) 65 3)) v 4 ((cd_up (cd_up (cd_up (cd_up I v 0 (I 65 0)) v 1 ((cd_up I v 0 (I 65 0)) 65 1)) v 2 ((cd_up (cd_up I v 0 (I 65 0)) v 1 ((cd_up I v 0 (I 65 0)) 65 1)) 65 2)) v 3 ((cd_up (cd_up (cd_up I v 0 (I 65 0)) v 1 ((cd_up I v 0 (I 65 0)) 65 1)) v 2 ((cd_up (cd_up I v 0 (I 65 0)) v 1 ((cd_up I v 0 (I 65 0)) 65 1)) 65 2)) 65 3)) 65 4)) J))) else none) else none) = some r) : cd_go 44 0 [.ref v, .ref 65] [] (cd_mm L w I J) = some r := by
  refine cd_q44_0 ?_
  simp only [cd_zwI, cd_zwL, cd_zI, cd_zJ, cd_zcp, true_and, if_true, cd_zk_65, cd_zk_v0_61_62_63_64_65 hv]
  exact h
set_option maxRecDepth 1000000 in
set_option maxHeartbeats 8000000 in
theorem cd_s45_0 {L : Nat} {w : Bool} {I : Nat → Nat → Int32} {J : Nat → Nat → Int64} {r : cd_Ret} (h : (if 60 < (I 3 1) then (some (some (.int (-1003)), (cd_mm L w I J))) else if (I 2 14) < 4 then ((cd_cv (cd_c 17 [.ref 3] (cd_mm L w I J))).bind fun m => cd_go 45 16 [.ref 2] [] m) else some (some (.int (-1004)), (cd_mm L w I J))) = some r) : cd_go 45 0 [.ref 2] [] (cd_mm L w I J) = some r := by
  refine cd_q45_0 ?_
  simp only [cd_zwI, cd_zwL, cd_zI, cd_zJ, cd_zcp, true_and, if_true, cd_zk_2, cd_zR_2_0, cd_zk_3]
  exact h
set_option maxRecDepth 1000000 in
set_option maxHeartbeats 8000000 in
theorem cd_s45_16 {L : Nat} {w : Bool} {I : Nat → Nat → Int32} {J : Nat → Nat → Int64} {r : cd_Ret} (h : ((cd_cv (cd_c 43 [.ref 65, .ref 3] (cd_mm L w I J))).bind fun m => cd_go 45 21 [.ref 2] [] m) = some r) : cd_go 45 16 [.ref 2] [] (cd_mm L w I J) = some r := by
  refine cd_q45_16 ?_
  simp only [cd_zwI, cd_zwL, cd_zI, cd_zJ, cd_zcp, true_and, if_true, cd_zk_2, cd_zR_2_11, cd_zR_2_0, cd_zk_65]
  exact h
set_option maxRecDepth 1000000 in
set_option maxHeartbeats 8000000 in
theorem cd_s45_48 {L : Nat} {w : Bool} {I : Nat → Nat → Int32} {J : Nat → Nat → Int64} {r : cd_Ret} (h : (some (some (.int (((cd_up I 2 14 ((I 2 14) + 1)) 2 14) - 1)), (cd_mm L w (cd_up I 2 14 ((I 2 14) + 1)) J))) = some r) : cd_go 45 48 [.ref 2] [] (cd_mm L w I J) = some r := by
  refine cd_q45_48 ?_
  simp only [cd_zwI, cd_zwL, cd_zI, cd_zJ, cd_zcp, true_and, if_true, cd_zk_2]
  exact h
set_option maxRecDepth 1000000 in
set_option maxHeartbeats 8000000 in
theorem cd_s46_0 {L : Nat} {w : Bool} {I : Nat → Nat → Int32} {J : Nat → Nat → Int64} {r : cd_Ret} (h : (some (some (.int (I 2 15)), (cd_mm L w I J))) = some r) : cd_go 46 0 [.ref 2] [] (cd_mm L w I J) = some r := by
  refine cd_q46_0 ?_
  simp only [cd_zwI, cd_zwL, cd_zI, cd_zJ, cd_zcp, true_and, if_true, cd_zk_2]
  exact h
set_option maxRecDepth 1000000 in
set_option maxHeartbeats 8000000 in
theorem cd_s47_0 {x0 : Int32} {L : Nat} {w : Bool} {I : Nat → Nat → Int32} {J : Nat → Nat → Int64} {r : cd_Ret} (h : (some (some (.int ((((((((x0 - (((x0.toUInt32 >>> ((1 : Int32).toUInt32 &&& Int32.toUInt32 31)).toInt32) &&& 1431655765)) &&& 858993459) + ((((x0 - (((x0.toUInt32 >>> ((1 : Int32).toUInt32 &&& Int32.toUInt32 31)).toInt32) &&& 1431655765)).toUInt32 >>> ((2 : Int32).toUInt32 &&& Int32.toUInt32 31)).toInt32) &&& 858993459)) + (((((x0 - (((x0.toUInt32 >>> ((1 : Int32).toUInt32 &&& Int32.toUInt32 31)).toInt32) &&& 1431655765)) &&& 858993459) + ((((x0 - (((x0.toUInt32 >>> ((1 : Int32).toUInt32 &&& Int32.toUInt32 31)).toInt32) &&& 1431655765)).toUInt32 >>> ((2 : Int32).toUInt32 &&& Int32.toUInt32 31)).toInt32) &&& 858993459)).toUInt32 >>> ((4 : Int32).toUInt32 &&& Int32.toUInt32 31)).toInt32)) &&& 252645135) + (((((((x0 - (((x0.toUInt32 >>> ((1 : Int32).toUInt32 &&& Int32.toUInt32 31)).toInt32) &&& 1431655765)) &&& 858993459) + ((((x0 - (((x0.toUInt32 >>> ((1 : Int32).toUInt32 &&& Int32.toUInt32 31)).toInt32) &&& 1431655765)).toUInt32 >>> ((2 : Int32).toUInt32 &&& Int32.toUInt32 31)).toInt32) &&& 858993459)) + (((((x0 - (((x0.toUInt32 >>> ((1 : Int32).toUInt32 &&& Int32.toUInt32 31)).toInt32) &&& 1431655765)) &&& 858993459) + ((((x0 - (((x0.toUInt32 >>> ((1 : Int32).toUInt32 &&& Int32.toUInt32 31)).toInt32) &&& 1431655765)).toUInt32 >>> ((2 : Int32).toUInt32 &&& Int32.toUInt32 31)).toInt32) &&& 858993459)).toUInt32 >>> ((4 : Int32).toUInt32 &&& Int32.toUInt32 31)).toInt32)) &&& 252645135).toUInt32 >>> ((8 : Int32).toUInt32 &&& Int32.toUInt32 31)).toInt32)) + ((((((((x0 - (((x0.toUInt32 >>> ((1 : Int32).toUInt32 &&& Int32.toUInt32 31)).toInt32) &&& 1431655765)) &&& 858993459) + ((((x0 - (((x0.toUInt32 >>> ((1 : Int32).toUInt32 &&& Int32.toUInt32 31)).toInt32) &&& 1431655765)).toUInt32 >>> ((2 : Int32).toUInt32 &&& Int32.toUInt32 31)).toInt32) &&& 858993459)) + (((((x0 - (((x0.toUInt32 >>> ((1 : Int32).toUInt32 &&& Int32.toUInt32 31)).toInt32) &&& 1431655765)) &&& 858993459) + ((((x0 - (((x0.toUInt32 >>> ((1 : Int32).toUInt32 &&& Int32.toUInt32 31)).toInt32) &&& 1431655765)).toUInt32 >>> ((2 : Int32).toUInt32 &&& Int32.toUInt32 31)).toInt32) &&& 858993459)).toUInt32 >>> ((4 : Int32).toUInt32 &&& Int32.toUInt32 31)).toInt32)) &&& 252645135) + (((((((x0 - (((x0.toUInt32 >>> ((1 : Int32).toUInt32 &&& Int32.toUInt32 31)).toInt32) &&& 1431655765)) &&& 858993459) + ((((x0 - (((x0.toUInt32 >>> ((1 : Int32).toUInt32 &&& Int32.toUInt32 31)).toInt32) &&& 1431655765)).toUInt32 >>> ((2 : Int32).toUInt32 &&& Int32.toUInt32 31)).toInt32) &&& 858993459)) + (((((x0 - (((x0.toUInt32 >>> ((1 : Int32).toUInt32 &&& Int32.toUInt32 31)).toInt32) &&& 1431655765)) &&& 858993459) + ((((x0 - (((x0.toUInt32 >>> ((1 : Int32).toUInt32 &&& Int32.toUInt32 31)).toInt32) &&& 1431655765)).toUInt32 >>> ((2 : Int32).toUInt32 &&& Int32.toUInt32 31)).toInt32) &&& 858993459)).toUInt32 >>> ((4 : Int32).toUInt32 &&& Int32.toUInt32 31)).toInt32)) &&& 252645135).toUInt32 >>> ((8 : Int32).toUInt32 &&& Int32.toUInt32 31)).toInt32)).toUInt32 >>> ((16 : Int32).toUInt32 &&& Int32.toUInt32 31)).toInt32)) &&& 63)), (cd_mm L w I J))) = some r) : cd_go 47 0 [.int x0] [] (cd_mm L w I J) = some r := cd_q47_0 h
set_option maxRecDepth 1000000 in
set_option maxHeartbeats 8000000 in
theorem cd_s48_0 {x1 : Int32} {L : Nat} {w : Bool} {I : Nat → Nat → Int32} {J : Nat → Nat → Int64} {r : cd_Ret} (h : (if x1 = 0 then (some (some (.int (I (cd_ple w) 0)), (cd_mm L w I J))) else if x1 = 1 then (some (some (.int (I (cd_ple w) 1)), (cd_mm L w I J))) else if x1 = 2 then (some (some (.int (I (cd_ple w) 2)), (cd_mm L w I J))) else if x1 = 3 then ((cd_ci (cd_c 47 [.int (I 45 2)] (cd_mm L w I J))).bind fun q => cd_go 48 18 [.ref 2, .int x1] [.int q.1] q.2) else if x1 = 4 then (some (some (.int (I 2 14)), (cd_mm L w I J))) else if x1 = 5 then (some (some (.int (I 42 2)), (cd_mm L w I J))) else if x1 = 6 then (some (some (.int (I 3 1)), (cd_mm L w I J))) else some (some (.int (-1002)), (cd_mm L w I J))) = some r) : cd_go 48 0 [.ref 2, .int x1] [] (cd_mm L w I J) = some r := by
  refine cd_q48_0 ?_
  simp only [cd_zwI, cd_zwL, cd_zI, cd_zJ, cd_zcp, true_and, if_true, cd_zk_2, cd_zR_2_12, cd_zk_w0_, cd_zR_2_6, cd_zk_45, cd_zR_2_5, cd_zk_42, cd_zR_2_0, cd_zk_3]
  exact h
set_option maxRecDepth 1000000 in
set_option maxHeartbeats 8000000 in
theorem cd_s48_18 {x1 : Int32} {s0 : Int32} {L : Nat} {w : Bool} {I : Nat → Nat → Int32} {J : Nat → Nat → Int64} {r : cd_Ret} (h : (some (some (.int s0), (cd_mm L w I J))) = some r) : cd_go 48 18 [.ref 2, .int x1] [.int s0] (cd_mm L w I J) = some r := cd_q48_18 h
set_option maxRecDepth 1000000 in
set_option maxHeartbeats 8000000 in
theorem cd_s49_0 {x1 : Int32} {L : Nat} {w : Bool} {I : Nat → Nat → Int32} {J : Nat → Nat → Int64} {r : cd_Ret} (h : (if x1 < 0 then (some (some (.int 0), (cd_mm L w I J))) else if x1 < (I (cd_ple w) 0) then (some (some (.int 1), (cd_mm L w I J))) else some (some (.int 0), (cd_mm L w I J))) = some r) : cd_go 49 0 [.ref 2, .int x1] [] (cd_mm L w I J) = some r := by
  refine cd_q49_0 ?_
  simp only [cd_zwI, cd_zwL, cd_zI, cd_zJ, cd_zcp, true_and, if_true, cd_zk_2, cd_zR_2_12, cd_zk_w0_]
  exact h
set_option maxRecDepth 1000000 in
set_option maxHeartbeats 8000000 in
theorem cd_s50_0 {x1 : Int32} {s : Nat} (hs : s = 22 ∨ s = 45) {L : Nat} {w : Bool} {I : Nat → Nat → Int32} {J : Nat → Nat → Int64} {r : cd_Ret} (h : (cd_go 50 4 [.ref s, .int x1, .long 0, .null, .int 0] [] (cd_mm L w I J)) = some r) : cd_go 50 0 [.ref s, .int x1, .null, .null, .null] [] (cd_mm L w I J) = some r := cd_q50_0 h
set_option maxRecDepth 1000000 in
set_option maxHeartbeats 8000000 in
theorem cd_s50_4 {x1 : Int32} {y2 : Int64} {x4 : Int32} {s : Nat} (hs : s = 22 ∨ s = 45) {L : Nat} {w : Bool} {I : Nat → Nat → Int32} {J : Nat → Nat → Int64} {r : cd_Ret} (h : (if x4 < x1 then (if cd_in x4 8 = true then (cd_go 50 4 [.ref s, .int x1, .long (((y2 <<< ((7 : Int32).toInt64 &&& 63)) ||| (((I (s + 1) x4.toNatClampNeg) <<< ((1 : Int32) &&& 31)).toInt64)) ||| (((((I s 1).toUInt32 >>> (x4.toUInt32 &&& Int32.toUInt32 31)).toInt32) &&& 1).toInt64)), .null, .int (x4 + 1)] [] (cd_mm L w I J)) else none) else some (some (.long y2), (cd_mm L w I J))) = some r) : cd_go 50 4 [.ref s, .int x1, .long y2, .null, .int x4] [] (cd_mm L w I J) = some r := by
  refine cd_q50_4 ?_
  simp only [cd_zwI, cd_zwL, cd_zI, cd_zJ, cd_zcp, true_and, if_true, cd_zk_s0_22_45 hs, cd_zR_s0_22_45_0 hs, cd_zk_s1_22_45 hs, cd_zn_s1_22_45 hs]
  exact h
set_option maxRecDepth 1000000 in
set_option maxHeartbeats 8000000 in
theorem cd_s51_0 {x2 : Int32} {x3 : Int32} {p : Nat} (hp : p = 66 ∨ p = 83) {z : Nat} (hz : z = 14 ∨ z = 38) {L : Nat} {w : Bool} {I : Nat → Nat → Int32} {J : Nat → Nat → Int64} {r : cd_Ret} (h : (if cd_in x2 12 = true then (if cd_in (I (p + 11) x2.toNatClampNeg) 3 = true then (if cd_in (I (p + 11) x2.toNatClampNeg) 3 = true then (if cd_in (I (p + 11) x2.toNatClampNeg) 3 = true then (cd_go 51 26 [.ref z, .ref p, .int x2, .int x3, .int (I (p + 11) x2.toNatClampNeg), .int (I (p + 9) (I (p + 11) x2.toNatClampNeg).toNatClampNeg), .int ((I (p + 5) (I (p + 11) x2.toNatClampNeg).toNatClampNeg) / 8), .int ((I (p + 5) (I (p + 11) x2.toNatClampNeg).toNatClampNeg) - (I (p + 5) (I (p + 11) x2.toNatClampNeg).toNatClampNeg) / 8 * 8), .int ((I (p + 5) (I (p + 11) x2.toNatClampNeg).toNatClampNeg) / 8), .null, .null, .null, .null] [] (cd_mm L w I J)) else none) else none) else none) else none) = some r) : cd_go 51 0 [.ref z, .ref p, .int x2, .int x3, .null, .null, .null, .null, .null, .null, .null, .null, .null] [] (cd_mm L w I J) = some r := by
  refine cd_q51_0 ?_
  simp only [cd_zwI, cd_zwL, cd_zI, cd_zJ, cd_zcp, true_and, if_true, cd_zk_p0_66_83 hp, cd_zR_p0_66_83_14 hp, cd_zk_p11_66_83 hp, cd_zn_p11_66_83 hp, cd_zR_p0_66_83_12 hp, cd_zk_p9_66_83 hp, cd_zn_p9_66_83 hp, cd_zR_p0_66_83_8 hp, cd_zk_p5_66_83 hp, cd_zn_p5_66_83 hp]
  exact h
set_option maxRecDepth 1000000 in
set_option maxHeartbeats 8000000 in
theorem cd_s51_26 {x2 : Int32} {x3 : Int32} {x4 : Int32} {x5 : Int32} {x6 : Int32} {x7 : Int32} {x8 : Int32} {w9 : Value} {w10 : Value} {w11 : Value} {w12 : Value} {p : Nat} (hp : p = 66 ∨ p = 83) {z : Nat} (hz : z = 14 ∨ z = 38) {L : Nat} {w : Bool} {I : Nat → Nat → Int32} {J : Nat → Nat → Int64} {r : cd_Ret} (h : (if cd_in x4 3 = true then (if x8 < (x6 + (I (p + 6) x4.toNatClampNeg)) then (if cd_in x3 64 = true then (cd_go 51 50 [.ref z, .ref p, .int x2, .int x3, .int x4, .int x5, .int x6, .int x7, .int x8, .int ((I (z + 3) x3.toNatClampNeg) - (x5 * (if 0 ≤ (x8 - (x3 / 8)) then (x8 - (x3 / 8)) else 0 - (x8 - (x3 / 8))))), .int x7, w11, w12] [] (cd_mm L w I J)) else none) else some (none, (cd_mm L w I J))) else none) = some r) : cd_go 51 26 [.ref z, .ref p, .int x2, .int x3, .int x4, .int x5, .int x6, .int x7, .int x8, w9, w10, w11, w12] [] (cd_mm L w I J) = some r := by
  refine cd_q51_26 ?_
  simp only [cd_zwI, cd_zwL, cd_zI, cd_zJ, cd_zcp, true_and, if_true, cd_zk_p0_66_83 hp, cd_zR_p0_66_83_9 hp, cd_zk_p6_66_83 hp, cd_zn_p6_66_83 hp, cd_zk_z0_14_38 hz, cd_zR_z0_14_38_2 hz, cd_zk_z3_14_38 hz, cd_zn_z3_14_38 hz]
  exact h
set_option maxRecDepth 1000000 in
set_option maxHeartbeats 8000000 in
theorem cd_s51_50 {x2 : Int32} {x3 : Int32} {x4 : Int32} {x5 : Int32} {x6 : Int32} {x7 : Int32} {x8 : Int32} {x9 : Int32} {x10 : Int32} {w11 : Value} {w12 : Value} {p : Nat} (hp : p = 66 ∨ p = 83) {z : Nat} (hz : z = 14 ∨ z = 38) {L : Nat} {w : Bool} {I : Nat → Nat → Int32} {J : Nat → Nat → Int64} {r : cd_Ret} (h : (if cd_in x4 3 = true then (if x10 < (x7 + (I (p + 7) x4.toNatClampNeg)) then (if cd_in (((x4 * 64) + (x8 * 8)) + x10) 192 = true then (if (I (z + 2) (((x4 * 64) + (x8 * 8)) + x10).toNatClampNeg) = (-1) then (if cd_in (((x4 * 64) + (x8 * 8)) + x10) 192 = true then (if cd_in (((x4 * 64) + (x8 * 8)) + x10) 192 = true then (cd_go 51 50 [.ref z, .ref p, .int x2, .int x3, .int x4, .int x5, .int x6, .int x7, .int x8, .int x9, .int (x10 + 1), .int (x9 - (x5 * (if 0 ≤ (x10 - (x3 - x3 / 8 * 8)) then (x10 - (x3 - x3 / 8 * 8)) else 0 - (x10 - (x3 - x3 / 8 * 8))))), .int (((x4 * 64) + (x8 * 8)) + x10)] [] (cd_mm L w (cd_up (cd_up I (z + 1) (((x4 * 64) + (x8 * 8)) + x10).toNatClampNeg (x9 - (x5 * (if 0 ≤ (x10 - (x3 - x3 / 8 * 8)) then (x10 - (x3 - x3 / 8 * 8)) else 0 - (x10 - (x3 - x3 / 8 * 8)))))) (z + 2) (((x4 * 64) + (x8 * 8)) + x10).toNatClampNeg x2) J)) else none) else none) else if cd_in (((x4 * 64) + (x8 * 8)) + x10) 192 = true then (if (I (z + 1) (((x4 * 64) + (x8 * 8)) + x10).toNatClampNeg) < (x9 - (x5 * (if 0 ≤ (x10 - (x3 - x3 / 8 * 8)) then (x10 - (x3 - x3 / 8 * 8)) else 0 - (x10 - (x3 - x3 / 8 * 8))))) then (if cd_in (((x4 * 64) + (x8 * 8)) + x10) 192 = true then (if cd_in (((x4 * 64) + (x8 * 8)) + x10) 192 = true then (cd_go 51 50 [.ref z, .ref p, .int x2, .int x3, .int x4, .int x5, .int x6, .int x7, .int x8, .int x9, .int (x10 + 1), .int (x9 - (x5 * (if 0 ≤ (x10 - (x3 - x3 / 8 * 8)) then (x10 - (x3 - x3 / 8 * 8)) else 0 - (x10 - (x3 - x3 / 8 * 8))))), .int (((x4 * 64) + (x8 * 8)) + x10)] [] (cd_mm L w (cd_up (cd_up I (z + 1) (((x4 * 64) + (x8 * 8)) + x10).toNatClampNeg (x9 - (x5 * (if 0 ≤ (x10 - (x3 - x3 / 8 * 8)) then (x10 - (x3 - x3 / 8 * 8)) else 0 - (x10 - (x3 - x3 / 8 * 8)))))) (z + 2) (((x4 * 64) + (x8 * 8)) + x10).toNatClampNeg x2) J)) else none) else none) else cd_go 51 50 [.ref z, .ref p, .int x2, .int x3, .int x4, .int x5, .int x6, .int x7, .int x8, .int x9, .int (x10 + 1), .int (x9 - (x5 * (if 0 ≤ (x10 - (x3 - x3 / 8 * 8)) then (x10 - (x3 - x3 / 8 * 8)) else 0 - (x10 - (x3 - x3 / 8 * 8))))), .int (((x4 * 64) + (x8 * 8)) + x10)] [] (cd_mm L w I J)) else none) else none) else cd_go 51 26 [.ref z, .ref p, .int x2, .int x3, .int x4, .int x5, .int x6, .int x7, .int (x8 + 1), .int x9, .int x10, w11, w12] [] (cd_mm L w I J)) else none) = some r) : cd_go 51 50 [.ref z, .ref p, .int x2, .int x3, .int x4, .int x5, .int x6, .int x7, .int x8, .int x9, .int x10, w11, w12] [] (cd_mm L w I J) = some r := by
  refine cd_q51_50 ?_
  simp only [cd_zwI, cd_zwL, cd_zI, cd_zJ, cd_zcp, true_and, if_true, cd_zk_p0_66_83 hp, cd_zR_p0_66_83_10 hp, cd_zk_p7_66_83 hp, cd_zn_p7_66_83 hp, cd_zk_z0_14_38 hz, cd_zR_z0_14_38_1 hz, cd_zk_z2_14_38 hz, cd_zn_z2_14_38 hz, cd_zR_z0_14_38_0 hz, cd_zk_z1_14_38 hz, cd_zn_z1_14_38 hz]
  exact h
set_option maxRecDepth 1000000 in
set_option maxHeartbeats 8000000 in
theorem cd_s52_0 {x2 : Int32} {p : Nat} (hp : p = 66 ∨ p = 83) {z : Nat} (hz : z = 14 ∨ z = 38) {L : Nat} {w : Bool} {I : Nat → Nat → Int32} {J : Nat → Nat → Int64} {r : cd_Ret} (h : (cd_go 52 2 [.ref z, .ref p, .int x2, .int 0, .null] [] (cd_mm L w I J)) = some r) : cd_go 52 0 [.ref z, .ref p, .int x2, .null, .null] [] (cd_mm L w I J) = some r := cd_q52_0 h
set_option maxRecDepth 1000000 in
set_option maxHeartbeats 8000000 in
theorem cd_s52_2 {x2 : Int32} {x3 : Int32} {w4 : Value} {p : Nat} (hp : p = 66 ∨ p = 83) {z : Nat} (hz : z = 14 ∨ z = 38) {L : Nat} {w : Bool} {I : Nat → Nat → Int32} {J : Nat → Nat → Int64} {r : cd_Ret} (h : (if x3 < 64 then ((cd_ci (cd_c 29 [.ref p, .int x2, .int x3] (cd_mm L w I J))).bind fun q => cd_go 52 15 [.ref z, .ref p, .int x2, .int x3, .int ((x2 * 64) + x3)] [.int q.1] q.2) else some (none, (cd_mm L w I J))) = some r) : cd_go 52 2 [.ref z, .ref p, .int x2, .int x3, w4] [] (cd_mm L w I J) = some r := by
  refine cd_q52_2 ?_
  simp only [cd_zwI, cd_zwL, cd_zI, cd_zJ, cd_zcp, true_and, if_true, cd_zk_p0_66_83 hp]
  exact h
set_option maxRecDepth 1000000 in
set_option maxHeartbeats 8000000 in
theorem cd_s52_15 {x2 : Int32} {x3 : Int32} {x4 : Int32} {s0 : Int32} {p : Nat} (hp : p = 66 ∨ p = 83) {z : Nat} (hz : z = 14 ∨ z = 38) {L : Nat} {w : Bool} {I : Nat → Nat → Int32} {J : Nat → Nat → Int64} {r : cd_Ret} (h : (if s0 = 0 then (cd_go 52 2 [.ref z, .ref p, .int x2, .int (x3 + 1), .int x4] [] (cd_mm L w I J)) else if cd_in x4 192 = true then (if (I (z + 2) x4.toNatClampNeg) = (-1) then (if cd_in x3 64 = true then (if cd_in x4 192 = true then (if cd_in x4 192 = true then (cd_go 52 2 [.ref z, .ref p, .int x2, .int (x3 + 1), .int x4] [] (cd_mm L w (cd_up (cd_up I (z + 1) x4.toNatClampNeg (I (z + 3) x3.toNatClampNeg)) (z + 2) x4.toNatClampNeg (-1)) J)) else none) else none) else none) else if cd_in x4 192 = true then (if cd_in x3 64 = true then (if (I (z + 1) x4.toNatClampNeg) < (I (z + 3) x3.toNatClampNeg) then (if cd_in x3 64 = true then (if cd_in x4 192 = true then (if cd_in x4 192 = true then (cd_go 52 2 [.ref z, .ref p, .int x2, .int (x3 + 1), .int x4] [] (cd_mm L w (cd_up (cd_up I (z + 1) x4.toNatClampNeg (I (z + 3) x3.toNatClampNeg)) (z + 2) x4.toNatClampNeg (-1)) J)) else none) else none) else none) else cd_go 52 2 [.ref z, .ref p, .int x2, .int (x3 + 1), .int x4] [] (cd_mm L w I J)) else none) else none) else none) = some r) : cd_go 52 15 [.ref z, .ref p, .int x2, .int x3, .int x4] [.int s0] (cd_mm L w I J) = some r := by
  refine cd_q52_15 ?_
  simp only [cd_zwI, cd_zwL, cd_zI, cd_zJ, cd_zcp, true_and, if_true, cd_zk_z0_14_38 hz, cd_zR_z0_14_38_1 hz, cd_zk_z2_14_38 hz, cd_zn_z2_14_38 hz, cd_zR_z0_14_38_0 hz, cd_zR_z0_14_38_2 hz, cd_zk_z3_14_38 hz, cd_zn_z3_14_38 hz, cd_zk_z1_14_38 hz, cd_zn_z1_14_38 hz]
  exact h
set_option maxRecDepth 1000000 in
set_option maxHeartbeats 8000000 in
theorem cd_s53_0 {p : Nat} (hp : p = 66 ∨ p = 83) {s : Nat} (hs : s = 22 ∨ s = 45) {z : Nat} (hz : z = 14 ∨ z = 38) {L : Nat} {w : Bool} {I : Nat → Nat → Int32} {J : Nat → Nat → Int64} {r : cd_Ret} (h : ((cd_cv (cd_c 2 [.ref (z + 1), .int (-1)] (cd_mm L w I J))).bind fun m => cd_go 53 4 [.ref z, .ref p, .ref s, .null] [] m) = some r) : cd_go 53 0 [.ref z, .ref p, .ref s, .null] [] (cd_mm L w I J) = some r := by
  refine cd_q53_0 ?_
  simp only [cd_zwI, cd_zwL, cd_zI, cd_zJ, cd_zcp, true_and, if_true, cd_zk_z0_14_38 hz, cd_zR_z0_14_38_0 hz]
  exact h
set_option maxRecDepth 1000000 in
set_option maxHeartbeats 8000000 in
theorem cd_s53_4 {p : Nat} (hp : p = 66 ∨ p = 83) {s : Nat} (hs : s = 22 ∨ s = 45) {z : Nat} (hz : z = 14 ∨ z = 38) {L : Nat} {w : Bool} {I : Nat → Nat → Int32} {J : Nat → Nat → Int64} {r : cd_Ret} (h : ((cd_cv (cd_c 2 [.ref (z + 2), .int (-1)] (cd_mm L w I J))).bind fun m => cd_go 53 8 [.ref z, .ref p, .ref s, .null] [] m) = some r) : cd_go 53 4 [.ref z, .ref p, .ref s, .null] [] (cd_mm L w I J) = some r := by
  refine cd_q53_4 ?_
  simp only [cd_zwI, cd_zwL, cd_zI, cd_zJ, cd_zcp, true_and, if_true, cd_zk_z0_14_38 hz, cd_zR_z0_14_38_1 hz]
  exact h
set_option maxRecDepth 1000000 in
set_option maxHeartbeats 8000000 in
theorem cd_s53_8 {p : Nat} (hp : p = 66 ∨ p = 83) {s : Nat} (hs : s = 22 ∨ s = 45) {z : Nat} (hz : z = 14 ∨ z = 38) {L : Nat} {w : Bool} {I : Nat → Nat → Int32} {J : Nat → Nat → Int64} {r : cd_Ret} (h : ((cd_cv (cd_c 2 [.ref (z + 3), .int 0] (cd_mm L w I J))).bind fun m => cd_go 53 12 [.ref z, .ref p, .ref s, .null] [] m) = some r) : cd_go 53 8 [.ref z, .ref p, .ref s, .null] [] (cd_mm L w I J) = some r := by
  refine cd_q53_8 ?_
  simp only [cd_zwI, cd_zwL, cd_zI, cd_zJ, cd_zcp, true_and, if_true, cd_zk_z0_14_38 hz, cd_zR_z0_14_38_2 hz]
  exact h
set_option maxRecDepth 1000000 in
set_option maxHeartbeats 8000000 in
theorem cd_s53_12 {p : Nat} (hp : p = 66 ∨ p = 83) {s : Nat} (hs : s = 22 ∨ s = 45) {z : Nat} (hz : z = 14 ∨ z = 38) {L : Nat} {w : Bool} {I : Nat → Nat → Int32} {J : Nat → Nat → Int64} {r : cd_Ret} (h : (cd_go 53 14 [.ref z, .ref p, .ref s, .int 0] [] (cd_mm L w I J)) = some r) : cd_go 53 12 [.ref z, .ref p, .ref s, .null] [] (cd_mm L w I J) = some r := cd_q53_12 h
set_option maxRecDepth 1000000 in
set_option maxHeartbeats 8000000 in
theorem cd_s53_14 {x3 : Int32} {p : Nat} (hp : p = 66 ∨ p = 83) {s : Nat} (hs : s = 22 ∨ s = 45) {z : Nat} (hz : z = 14 ∨ z = 38) {L : Nat} {w : Bool} {I : Nat → Nat → Int32} {J : Nat → Nat → Int64} {r : cd_Ret} (h : (if x3 < (I p 0) then (if cd_in x3 8 = true then (if ((((I s 1).toUInt32 >>> (x3.toUInt32 &&& Int32.toUInt32 31)).toInt32) &&& 1) = 0 then (if cd_in x3 8 = true then (if cd_in (I (s + 1) x3.toNatClampNeg) 64 = true then (cd_go 53 14 [.ref z, .ref p, .ref s, .int (x3 + 1)] [] (cd_mm L w (cd_up I (z + 3) (I (s + 1) x3.toNatClampNeg).toNatClampNeg (I (p + 1) x3.toNatClampNeg)) J)) else none) else none) else if cd_in (I (s + 1) x3.toNatClampNeg) 64 = true then (cd_go 53 14 [.ref z, .ref p, .ref s, .int (x3 + 1)] [] (cd_mm L w (cd_up I (z + 3) (I (s + 1) x3.toNatClampNeg).toNatClampNeg 1) J)) else none) else none) else cd_go 53 42 [.ref z, .ref p, .ref s, .int 0] [] (cd_mm L w I J)) = some r) : cd_go 53 14 [.ref z, .ref p, .ref s, .int x3] [] (cd_mm L w I J) = some r := by
  refine cd_q53_14 ?_
  simp only [cd_zwI, cd_zwL, cd_zI, cd_zJ, cd_zcp, true_and, if_true, cd_zk_p0_66_83 hp, cd_zk_z0_14_38 hz, cd_zR_z0_14_38_2 hz, cd_zk_s0_22_45 hs, cd_zR_s0_22_45_0 hs, cd_zk_s1_22_45 hs, cd_zn_s1_22_45 hs, cd_zR_p0_66_83_4 hp, cd_zk_p1_66_83 hp, cd_zn_p1_66_83 hp, cd_zk_z3_14_38 hz, cd_zn_z3_14_38 hz]
  exact h
set_option maxRecDepth 1000000 in
set_option maxHeartbeats 8000000 in
theorem cd_s53_42 {x3 : Int32} {p : Nat} (hp : p = 66 ∨ p = 83) {s : Nat} (hs : s = 22 ∨ s = 45) {z : Nat} (hz : z = 14 ∨ z = 38) {L : Nat} {w : Bool} {I : Nat → Nat → Int32} {J : Nat → Nat → Int64} {r : cd_Ret} (h : (if x3 < (I p 2) then (if ((((I s 2).toUInt32 >>> (x3.toUInt32 &&& Int32.toUInt32 31)).toInt32) &&& 1) = 0 then (cd_go 53 64 [.ref z, .ref p, .ref s, .int x3] [] (cd_mm L w I J)) else if cd_in x3 12 = true then (if cd_in (I (p + 12) x3.toNatClampNeg) 8 = true then ((cd_cv (cd_c 51 [.ref z, .ref p, .int x3, .int (I (s + 1) (I (p + 12) x3.toNatClampNeg).toNatClampNeg)] (cd_mm L w I J))).bind fun m => cd_go 53 64 [.ref z, .ref p, .ref s, .int x3] [] m) else none) else none) else cd_go 53 68 [.ref z, .ref p, .ref s, .int 0] [] (cd_mm L w I J)) = some r) : cd_go 53 42 [.ref z, .ref p, .ref s, .int x3] [] (cd_mm L w I J) = some r := by
  refine cd_q53_42 ?_
  simp only [cd_zwI, cd_zwL, cd_zI, cd_zJ, cd_zcp, true_and, if_true, cd_zk_p0_66_83 hp, cd_zk_s0_22_45 hs, cd_zR_s0_22_45_0 hs, cd_zR_p0_66_83_15 hp, cd_zk_p12_66_83 hp, cd_zn_p12_66_83 hp, cd_zk_s1_22_45 hs, cd_zn_s1_22_45 hs, cd_zk_z0_14_38 hz]
  exact h
set_option maxRecDepth 1000000 in
set_option maxHeartbeats 8000000 in
theorem cd_s53_64 {x3 : Int32} {p : Nat} (hp : p = 66 ∨ p = 83) {s : Nat} (hs : s = 22 ∨ s = 45) {z : Nat} (hz : z = 14 ∨ z = 38) {L : Nat} {w : Bool} {I : Nat → Nat → Int32} {J : Nat → Nat → Int64} {r : cd_Ret} (h : (cd_go 53 42 [.ref z, .ref p, .ref s, .int (x3 + 1)] [] (cd_mm L w I J)) = some r) : cd_go 53 64 [.ref z, .ref p, .ref s, .int x3] [] (cd_mm L w I J) = some r := cd_q53_64 h
set_option maxRecDepth 1000000 in
set_option maxHeartbeats 8000000 in
theorem cd_s53_68 {x3 : Int32} {p : Nat} (hp : p = 66 ∨ p = 83) {s : Nat} (hs : s = 22 ∨ s = 45) {z : Nat} (hz : z = 14 ∨ z = 38) {L : Nat} {w : Bool} {I : Nat → Nat → Int32} {J : Nat → Nat → Int64} {r : cd_Ret} (h : (if x3 < (I p 1) then ((cd_cv (cd_c 52 [.ref z, .ref p, .int x3] (cd_mm L w I J))).bind fun m => cd_go 53 76 [.ref z, .ref p, .ref s, .int x3] [] m) else some (none, (cd_mm L w I J))) = some r) : cd_go 53 68 [.ref z, .ref p, .ref s, .int x3] [] (cd_mm L w I J) = some r := by
  refine cd_q53_68 ?_
  simp only [cd_zwI, cd_zwL, cd_zI, cd_zJ, cd_zcp, true_and, if_true, cd_zk_p0_66_83 hp, cd_zk_z0_14_38 hz]
  exact h
set_option maxRecDepth 1000000 in
set_option maxHeartbeats 8000000 in
theorem cd_s53_76 {x3 : Int32} {p : Nat} (hp : p = 66 ∨ p = 83) {s : Nat} (hs : s = 22 ∨ s = 45) {z : Nat} (hz : z = 14 ∨ z = 38) {L : Nat} {w : Bool} {I : Nat → Nat → Int32} {J : Nat → Nat → Int64} {r : cd_Ret} (h : (cd_go 53 68 [.ref z, .ref p, .ref s, .int (x3 + 1)] [] (cd_mm L w I J)) = some r) : cd_go 53 76 [.ref z, .ref p, .ref s, .int x3] [] (cd_mm L w I J) = some r := cd_q53_76 h
set_option maxRecDepth 1000000 in
set_option maxHeartbeats 8000000 in
theorem cd_s54_0 {x0 : Int32} {x1 : Int32} {x2 : Int32} {L : Nat} {w : Bool} {I : Nat → Nat → Int32} {J : Nat → Nat → Int64} {r : cd_Ret} (h : (if x2 < x1 then (none) else if x1 < 0 then (none) else if x0 < x2 then (none) else some (none, (cd_mm L w I J))) = some r) : cd_go 54 0 [.int x0, .int x1, .int x2] [] (cd_mm L w I J) = some r := cd_q54_0 h
set_option maxRecDepth 1000000 in
set_option maxHeartbeats 8000000 in
theorem cd_s56_0 {x0 : Int32} {L : Nat} {w : Bool} {I : Nat → Nat → Int32} {J : Nat → Nat → Int64} {r : cd_Ret} (h : (if 0 < x0 then (some (some (.int 1), (cd_mm L w I J))) else if x0 < 0 then (some (some (.int (-1)), (cd_mm L w I J))) else some (some (.int 0), (cd_mm L w I J))) = some r) : cd_go 56 0 [.int x0] [] (cd_mm L w I J) = some r := cd_q56_0 h
set_option maxRecDepth 1000000 in
set_option maxHeartbeats 8000000 in
theorem cd_s57_0 {x3 : Int32} {p : Nat} (hp : p = 66 ∨ p = 83) {s : Nat} (hs : s = 22 ∨ s = 45) {L : Nat} {w : Bool} {I : Nat → Nat → Int32} {J : Nat → Nat → Int64} {r : cd_Ret} (h : ((cd_cv (cd_c 55 [.ref 9, .int x3, .int (x3 + 12), .int 0] (cd_mm L w I J))).bind fun m => cd_go 57 8 [.ref 6, .ref p, .ref s, .int x3, .null, .null, .null, .null, .null] [] m) = some r) : cd_go 57 0 [.ref 6, .ref p, .ref s, .int x3, .null, .null, .null, .null, .null] [] (cd_mm L w I J) = some r := by
  refine cd_q57_0 ?_
  simp only [cd_zwI, cd_zwL, cd_zI, cd_zJ, cd_zcp, true_and, if_true, cd_zk_6, cd_zR_6_2]
  exact h
set_option maxRecDepth 1000000 in
set_option maxHeartbeats 8000000 in
theorem cd_s57_8 {x3 : Int32} {p : Nat} (hp : p = 66 ∨ p = 83) {s : Nat} (hs : s = 22 ∨ s = 45) {L : Nat} {w : Bool} {I : Nat → Nat → Int32} {J : Nat → Nat → Int64} {r : cd_Ret} (h : ((cd_cv (cd_c 55 [.ref 10, .int x3, .int (x3 + 12), .int 0] (cd_mm L w I J))).bind fun m => cd_go 57 16 [.ref 6, .ref p, .ref s, .int x3, .null, .null, .null, .null, .null] [] m) = some r) : cd_go 57 8 [.ref 6, .ref p, .ref s, .int x3, .null, .null, .null, .null, .null] [] (cd_mm L w I J) = some r := by
  refine cd_q57_8 ?_
  simp only [cd_zwI, cd_zwL, cd_zI, cd_zJ, cd_zcp, true_and, if_true, cd_zk_6, cd_zR_6_3]
  exact h
set_option maxRecDepth 1000000 in
set_option maxHeartbeats 8000000 in
theorem cd_s57_16 {x3 : Int32} {p : Nat} (hp : p = 66 ∨ p = 83) {s : Nat} (hs : s = 22 ∨ s = 45) {L : Nat} {w : Bool} {I : Nat → Nat → Int32} {J : Nat → Nat → Int64} {r : cd_Ret} (h : ((cd_cv (cd_c 55 [.ref 11, .int x3, .int (x3 + 12), .int 0] (cd_mm L w I J))).bind fun m => cd_go 57 24 [.ref 6, .ref p, .ref s, .int x3, .null, .null, .null, .null, .null] [] m) = some r) : cd_go 57 16 [.ref 6, .ref p, .ref s, .int x3, .null, .null, .null, .null, .null] [] (cd_mm L w I J) = some r := by
  refine cd_q57_16 ?_
  simp only [cd_zwI, cd_zwL, cd_zI, cd_zJ, cd_zcp, true_and, if_true, cd_zk_6, cd_zR_6_4]
  exact h
set_option maxRecDepth 1000000 in
set_option maxHeartbeats 8000000 in
theorem cd_s57_24 {x3 : Int32} {p : Nat} (hp : p = 66 ∨ p = 83) {s : Nat} (hs : s = 22 ∨ s = 45) {L : Nat} {w : Bool} {I : Nat → Nat → Int32} {J : Nat → Nat → Int64} {r : cd_Ret} (h : (cd_go 57 26 [.ref 6, .ref p, .ref s, .int x3, .int 0, .null, .null, .null, .null] [] (cd_mm L w I J)) = some r) : cd_go 57 24 [.ref 6, .ref p, .ref s, .int x3, .null, .null, .null, .null, .null] [] (cd_mm L w I J) = some r := cd_q57_24 h
set_option maxRecDepth 1000000 in
set_option maxHeartbeats 8000000 in
theorem cd_s57_26 {x3 : Int32} {x4 : Int32} {w5 : Value} {w6 : Value} {w7 : Value} {w8 : Value} {p : Nat} (hp : p = 66 ∨ p = 83) {s : Nat} (hs : s = 22 ∨ s = 45) {L : Nat} {w : Bool} {I : Nat → Nat → Int32} {J : Nat → Nat → Int64} {r : cd_Ret} (h : (if x4 < ((I p 1) * 64) then (if cd_in x4 192 = true then (if (I 16 x4.toNatClampNeg) = (-1) then (cd_go 57 26 [.ref 6, .ref p, .ref s, .int x3, .int (x4 + 1), .int (I 16 x4.toNatClampNeg), w6, w7, w8] [] (cd_mm L w I J)) else if cd_in (x4 / 64) 3 = true then (if cd_in (I 16 x4.toNatClampNeg) 12 = true then (if cd_in (I (p + 12) (I 16 x4.toNatClampNeg).toNatClampNeg) 8 = true then (if cd_in (x3 + (I 16 x4.toNatClampNeg)) 3072 = true then ((cd_ci (cd_c 56 [.int (((x4 - x4 / 64 * 64) / 8) - ((I (s + 1) (I (p + 12) (I 16 x4.toNatClampNeg).toNatClampNeg).toNatClampNeg) / 8))] (cd_mm L w I J))).bind fun q => cd_go 57 76 [.ref 6, .ref p, .ref s, .int x3, .int x4, .int (I 16 x4.toNatClampNeg), .int (I (p + 8) (x4 / 64).toNatClampNeg), .int (x4 - x4 / 64 * 64), .int (I (s + 1) (I (p + 12) (I 16 x4.toNatClampNeg).toNatClampNeg).toNatClampNeg)] [.int q.1, .int (I (p + 8) (x4 / 64).toNatClampNeg), .int (I 9 (x3 + (I 16 x4.toNatClampNeg)).toNatClampNeg), .int (x3 + (I 16 x4.toNatClampNeg)), .ref 9] q.2) else none) else none) else none) else none) else none) else some (none, (cd_mm L w I J))) = some r) : cd_go 57 26 [.ref 6, .ref p, .ref s, .int x3, .int x4, w5, w6, w7, w8] [] (cd_mm L w I J) = some r := by
  refine cd_q57_26 ?_
  simp only [cd_zwI, cd_zwL, cd_zI, cd_zJ, cd_zcp, true_and, if_true, cd_zk_p0_66_83 hp, cd_zk_6, cd_zR_6_7, cd_zk_14, cd_zR_14_1, cd_zk_16, cd_zn_16, cd_zR_p0_66_83_11 hp, cd_zk_p8_66_83 hp, cd_zn_p8_66_83 hp, cd_zk_s0_22_45 hs, cd_zR_s0_22_45_0 hs, cd_zR_p0_66_83_15 hp, cd_zk_p12_66_83 hp, cd_zn_p12_66_83 hp, cd_zk_s1_22_45 hs, cd_zn_s1_22_45 hs, cd_zR_6_2, cd_zk_9, cd_zn_9]
  exact h
set_option maxRecDepth 1000000 in
set_option maxHeartbeats 8000000 in
theorem cd_s57_76 {x3 : Int32} {x4 : Int32} {x5 : Int32} {x6 : Int32} {x7 : Int32} {x8 : Int32} {s1 : Int32} {s2 : Int32} {s3 : Int32} {s4 : Int32} {p : Nat} (hp : p = 66 ∨ p = 83) {s : Nat} (hs : s = 22 ∨ s = 45) {L : Nat} {w : Bool} {I : Nat → Nat → Int32} {J : Nat → Nat → Int64} {r : cd_Ret} (h : (if cd_in s1 3072 = true then (if cd_in (x3 + x5) 3072 = true then ((cd_ci (cd_c 56 [.int ((x7 - x7 / 8 * 8) - (x8 - x8 / 8 * 8))] (cd_mm L w (cd_up I 9 s1.toNatClampNeg (s2 + (s3 * s4))) J))).bind fun q => cd_go 57 95 [.ref 6, .ref p, .ref s, .int x3, .int x4, .int x5, .int x6, .int x7, .int x8] [.int q.1, .int x6, .int ((cd_up I 9 s1.toNatClampNeg (s2 + (s3 * s4))) 10 (x3 + x5).toNatClampNeg), .int (x3 + x5), .ref 10] q.2) else none) else none) = some r) : cd_go 57 76 [.ref 6, .ref p, .ref s, .int x3, .int x4, .int x5, .int x6, .int x7, .int x8] [.int s4, .int s3, .int s2, .int s1, .ref 9] (cd_mm L w I J) = some r := by
  refine cd_q57_76 ?_
  simp only [cd_zwI, cd_zwL, cd_zI, cd_zJ, cd_zcp, true_and, if_true, cd_zk_9, cd_zn_9, cd_zk_6, cd_zR_6_3, cd_zk_10, cd_zn_10]
  exact h
set_option maxRecDepth 1000000 in
set_option maxHeartbeats 8000000 in
theorem cd_s57_95 {x3 : Int32} {x4 : Int32} {x5 : Int32} {x6 : Int32} {x7 : Int32} {x8 : Int32} {s1 : Int32} {s2 : Int32} {s3 : Int32} {s4 : Int32} {p : Nat} (hp : p = 66 ∨ p = 83) {s : Nat} (hs : s = 22 ∨ s = 45) {L : Nat} {w : Bool} {I : Nat → Nat → Int32} {J : Nat → Nat → Int64} {r : cd_Ret} (h : (if cd_in s1 3072 = true then (if cd_in (x3 + x5) 3072 = true then (if cd_in (x3 + x5) 3072 = true then (cd_go 57 26 [.ref 6, .ref p, .ref s, .int x3, .int (x4 + 1), .int x5, .int x6, .int x7, .int x8] [] (cd_mm L w (cd_up (cd_up I 10 s1.toNatClampNeg (s2 + (s3 * s4))) 11 (x3 + x5).toNatClampNeg (((cd_up I 10 s1.toNatClampNeg (s2 + (s3 * s4))) 11 (x3 + x5).toNatClampNeg) + x6)) J)) else none) else none) else none) = some r) : cd_go 57 95 [.ref 6, .ref p, .ref s, .int x3, .int x4, .int x5, .int x6, .int x7, .int x8] [.int s4, .int s3, .int s2, .int s1, .ref 10] (cd_mm L w I J) = some r := by
  refine cd_q57_95 ?_
  simp only [cd_zwI, cd_zwL, cd_zI, cd_zJ, cd_zcp, true_and, if_true, cd_zk_10, cd_zn_10, cd_zk_6, cd_zR_6_4, cd_zk_11, cd_zn_11]
  exact h
set_option maxRecDepth 1000000 in
set_option maxHeartbeats 8000000 in
theorem cd_s58_0 {p : Nat} (hp : p = 66 ∨ p = 83) {s : Nat} (hs : s = 22 ∨ s = 45) {L : Nat} {w : Bool} {I : Nat → Nat → Int32} {J : Nat → Nat → Int64} {r : cd_Ret} (h : ((cd_cl (cd_c 50 [.ref s, .int (I p 0)] (cd_mm L w I J))).bind fun q => cd_go 58 4 [.ref 6, .ref p, .ref s, .null, .null, .null, .null, .null] [.long q.1] q.2) = some r) : cd_go 58 0 [.ref 6, .ref p, .ref s, .null, .null, .null, .null, .null] [] (cd_mm L w I J) = some r := by
  refine cd_q58_0 ?_
  simp only [cd_zwI, cd_zwL, cd_zI, cd_zJ, cd_zcp, true_and, if_true, cd_zk_p0_66_83 hp, cd_zk_s0_22_45 hs]
  exact h
set_option maxRecDepth 1000000 in
set_option maxHeartbeats 8000000 in
theorem cd_s58_4 {t0 : Int64} {p : Nat} (hp : p = 66 ∨ p = 83) {s : Nat} (hs : s = 22 ∨ s = 45) {L : Nat} {w : Bool} {I : Nat → Nat → Int32} {J : Nat → Nat → Int64} {r : cd_Ret} (h : (cd_go 58 22 [.ref 6, .ref p, .ref s, .long t0, .null, .long ((t0 * (-7046029254386353131)) + (((I s 2).toInt64) * (-4417276706812531889))), .null, .int ((((((t0 * (-7046029254386353131)) + (((I s 2).toInt64) * (-4417276706812531889))).toUInt64 >>> ((40 : Int32).toInt64.toUInt64 &&& Int64.toUInt64 63)).toInt64).toInt32) &&& 255)] [] (cd_mm L w I J)) = some r) : cd_go 58 4 [.ref 6, .ref p, .ref s, .null, .null, .null, .null, .null] [.long t0] (cd_mm L w I J) = some r := cd_q58_4 ((if_pos (cd_zk_s0_22_45 hs)).trans h)
set_option maxRecDepth 1000000 in
set_option maxHeartbeats 8000000 in
theorem cd_s58_22 {y3 : Int64} {y5 : Int64} {x7 : Int32} {p : Nat} (hp : p = 66 ∨ p = 83) {s : Nat} (hs : s = 22 ∨ s = 45) {L : Nat} {w : Bool} {I : Nat → Nat → Int32} {J : Nat → Nat → Int64} {r : cd_Ret} (h : (if cd_in x7 256 = true then (if (I 8 x7.toNatClampNeg) = (I s 2) then (if cd_in x7 256 = true then (if (lg_cmp (J 7 x7.toNatClampNeg) y3) = 0 then (cd_go 58 64 [.ref 6, .ref p, .ref s, .long y3, .null, .long y5, .null, .int x7] [] (cd_mm L w I J)) else if cd_in x7 256 = true then (if cd_in x7 256 = true then (if cd_in x7 256 = true then ((cd_cv (cd_c 53 [.ref 14, .ref p, .ref s] (cd_mm L w (cd_up (cd_up I 8 x7.toNatClampNeg (I s 2)) 12 x7.toNatClampNeg 0) (cd_up J 7 x7.toNatClampNeg y3)))).bind fun m => cd_go 58 57 [.ref 6, .ref p, .ref s, .long y3, .null, .long y5, .null, .int x7] [] m) else none) else none) else none) else none) else if cd_in x7 256 = true then (if cd_in x7 256 = true then (if cd_in x7 256 = true then ((cd_cv (cd_c 53 [.ref 14, .ref p, .ref s] (cd_mm L w (cd_up (cd_up I 8 x7.toNatClampNeg (I s 2)) 12 x7.toNatClampNeg 0) (cd_up J 7 x7.toNatClampNeg y3)))).bind fun m => cd_go 58 57 [.ref 6, .ref p, .ref s, .long y3, .null, .long y5, .null, .int x7] [] m) else none) else none) else none) else none) = some r) : cd_go 58 22 [.ref 6, .ref p, .ref s, .long y3, .null, .long y5, .null, .int x7] [] (cd_mm L w I J) = some r := by
  refine cd_q58_22 ?_
  simp only [cd_zwI, cd_zwL, cd_zI, cd_zJ, cd_zcp, true_and, if_true, cd_zk_6, cd_zR_6_1, cd_zk_8, cd_zn_8, cd_zk_s0_22_45 hs, cd_zR_6_0, cd_zk_7, cd_zn_7, cd_zR_6_5, cd_zk_12, cd_zn_12, cd_zR_6_7, cd_zk_14]
  exact h
set_option maxRecDepth 1000000 in
set_option maxHeartbeats 8000000 in
theorem cd_s58_57 {y3 : Int64} {y5 : Int64} {x7 : Int32} {p : Nat} (hp : p = 66 ∨ p = 83) {s : Nat} (hs : s = 22 ∨ s = 45) {L : Nat} {w : Bool} {I : Nat → Nat → Int32} {J : Nat → Nat → Int64} {r : cd_Ret} (h : ((cd_cv (cd_c 57 [.ref 6, .ref p, .ref s, .int (x7 * 12)] (cd_mm L w I J))).bind fun m => cd_go 58 64 [.ref 6, .ref p, .ref s, .long y3, .null, .long y5, .null, .int x7] [] m) = some r) : cd_go 58 57 [.ref 6, .ref p, .ref s, .long y3, .null, .long y5, .null, .int x7] [] (cd_mm L w I J) = some r := by
  refine cd_q58_57 ?_
  simp only [cd_zwI, cd_zwL, cd_zI, cd_zJ, cd_zcp, true_and, if_true, cd_zk_6]
  exact h
set_option maxRecDepth 1000000 in
set_option maxHeartbeats 8000000 in
theorem cd_s58_64 {y3 : Int64} {y5 : Int64} {x7 : Int32} {p : Nat} (hp : p = 66 ∨ p = 83) {s : Nat} (hs : s = 22 ∨ s = 45) {L : Nat} {w : Bool} {I : Nat → Nat → Int32} {J : Nat → Nat → Int64} {r : cd_Ret} (h : (some (some (.int x7), (cd_mm L w I J))) = some r) : cd_go 58 64 [.ref 6, .ref p, .ref s, .long y3, .null, .long y5, .null, .int x7] [] (cd_mm L w I J) = some r := cd_q58_64 h
set_option maxRecDepth 1000000 in
set_option maxHeartbeats 8000000 in
theorem cd_s59_0 {x1 : Int32} {s : Nat} (hs : s = 22 ∨ s = 45) {L : Nat} {w : Bool} {I : Nat → Nat → Int32} {J : Nat → Nat → Int64} {r : cd_Ret} (h : (if ((((I s 2).toUInt32 >>> (x1.toUInt32 &&& Int32.toUInt32 31)).toInt32) &&& 1) = 0 then (some (some (.int 0), (cd_mm L w I J))) else some (some (.int 1), (cd_mm L w I J))) = some r) : cd_go 59 0 [.ref s, .int x1] [] (cd_mm L w I J) = some r := by
  refine cd_q59_0 ?_
  simp only [cd_zwI, cd_zwL, cd_zI, cd_zJ, cd_zcp, true_and, if_true, cd_zk_s0_22_45 hs]
  exact h
set_option maxRecDepth 1000000 in
set_option maxHeartbeats 8000000 in
theorem cd_s60_0 {x3 : Int32} {p : Nat} (hp : p = 66 ∨ p = 83) {s : Nat} (hs : s = 22 ∨ s = 45) {L : Nat} {w : Bool} {I : Nat → Nat → Int32} {J : Nat → Nat → Int64} {r : cd_Ret} (h : (cd_go 60 2 [.ref 5, .ref p, .ref s, .int x3, .int 0, .null] [] (cd_mm L w I J)) = some r) : cd_go 60 0 [.ref 5, .ref p, .ref s, .int x3, .null, .null] [] (cd_mm L w I J) = some r := cd_q60_0 h
set_option maxRecDepth 1000000 in
set_option maxHeartbeats 8000000 in
theorem cd_s60_2 {x3 : Int32} {x4 : Int32} {p : Nat} (hp : p = 66 ∨ p = 83) {s : Nat} (hs : s = 22 ∨ s = 45) {L : Nat} {w : Bool} {I : Nat → Nat → Int32} {J : Nat → Nat → Int64} {r : cd_Ret} (h : (if x4 < (I p 0) then (if cd_in x4 8 = true then (if cd_in x4 8 = true then (if cd_in x4 8 = true then (if cd_in x4 8 = true then (cd_go 60 2 [.ref 5, .ref p, .ref s, .int x3, .int (x4 + 1), .null] [] (cd_mm L w (cd_up (cd_up (cd_up I 18 x4.toNatClampNeg 0) 19 x4.toNatClampNeg 0) 20 x4.toNatClampNeg ((cd_up (cd_up I 18 x4.toNatClampNeg 0) 19 x4.toNatClampNeg 0) (p + 2) x4.toNatClampNeg)) J)) else none) else none) else none) else none) else cd_go 60 28 [.ref 5, .ref p, .ref s, .int x3, .int 0, .null] [] (cd_mm L w I J)) = some r) : cd_go 60 2 [.ref 5, .ref p, .ref s, .int x3, .int x4, .null] [] (cd_mm L w I J) = some r := by
  refine cd_q60_2 ?_
  simp only [cd_zwI, cd_zwL, cd_zI, cd_zJ, cd_zcp, true_and, if_true, cd_zk_p0_66_83 hp, cd_zk_5, cd_zR_5_1, cd_zk_18, cd_zn_18, cd_zR_5_2, cd_zk_19, cd_zn_19, cd_zR_5_3, cd_zR_p0_66_83_5 hp, cd_zk_p2_66_83 hp, cd_zn_p2_66_83 hp, cd_zk_20, cd_zn_20]
  exact h
set_option maxRecDepth 1000000 in
set_option maxHeartbeats 8000000 in
theorem cd_s60_28 {x3 : Int32} {x4 : Int32} {w5 : Value} {p : Nat} (hp : p = 66 ∨ p = 83) {s : Nat} (hs : s = 22 ∨ s = 45) {L : Nat} {w : Bool} {I : Nat → Nat → Int32} {J : Nat → Nat → Int64} {r : cd_Ret} (h : (if x4 < (I p 2) then ((cd_ci (cd_c 59 [.ref s, .int x4] (cd_mm L w I J))).bind fun q => cd_go 60 35 [.ref 5, .ref p, .ref s, .int x3, .int x4, w5] [.int q.1] q.2) else some (none, (cd_mm L w I J))) = some r) : cd_go 60 28 [.ref 5, .ref p, .ref s, .int x3, .int x4, w5] [] (cd_mm L w I J) = some r := by
  refine cd_q60_28 ?_
  simp only [cd_zwI, cd_zwL, cd_zI, cd_zJ, cd_zcp, true_and, if_true, cd_zk_p0_66_83 hp, cd_zk_s0_22_45 hs]
  exact h
set_option maxRecDepth 1000000 in
set_option maxHeartbeats 8000000 in
theorem cd_s60_35 {x3 : Int32} {x4 : Int32} {w5 : Value} {s0 : Int32} {p : Nat} (hp : p = 66 ∨ p = 83) {s : Nat} (hs : s = 22 ∨ s = 45) {L : Nat} {w : Bool} {I : Nat → Nat → Int32} {J : Nat → Nat → Int64} {r : cd_Ret} (h : (if s0 = 0 then (cd_go 60 28 [.ref 5, .ref p, .ref s, .int x3, .int (x4 + 1), w5] [] (cd_mm L w I J)) else if cd_in x4 12 = true then (if cd_in (I (p + 12) x4.toNatClampNeg) 8 = true then (if cd_in ((x3 * 12) + x4) 3072 = true then (if cd_in (I (p + 12) x4.toNatClampNeg) 8 = true then (if cd_in (I (p + 12) x4.toNatClampNeg) 8 = true then (if cd_in ((x3 * 12) + x4) 3072 = true then (if cd_in (I (p + 12) x4.toNatClampNeg) 8 = true then (if cd_in (I (p + 12) x4.toNatClampNeg) 8 = true then (if cd_in ((x3 * 12) + x4) 3072 = true then (if cd_in x4 12 = true then (if cd_in (I (p + 12) x4.toNatClampNeg) 8 = true then (cd_go 60 28 [.ref 5, .ref p, .ref s, .int x3, .int (x4 + 1), .int (I (p + 12) x4.toNatClampNeg)] [] (cd_mm L w (cd_up (cd_up (cd_up I 18 (I (p + 12) x4.toNatClampNeg).toNatClampNeg ((I 18 (I (p + 12) x4.toNatClampNeg).toNatClampNeg) + (I 9 ((x3 * 12) + x4).toNatClampNeg))) 19 (I (p + 12) x4.toNatClampNeg).toNatClampNeg (((cd_up I 18 (I (p + 12) x4.toNatClampNeg).toNatClampNeg ((I 18 (I (p + 12) x4.toNatClampNeg).toNatClampNeg) + (I 9 ((x3 * 12) + x4).toNatClampNeg))) 19 (I (p + 12) x4.toNatClampNeg).toNatClampNeg) + ((cd_up I 18 (I (p + 12) x4.toNatClampNeg).toNatClampNeg ((I 18 (I (p + 12) x4.toNatClampNeg).toNatClampNeg) + (I 9 ((x3 * 12) + x4).toNatClampNeg))) 10 ((x3 * 12) + x4).toNatClampNeg))) 20 (I (p + 12) x4.toNatClampNeg).toNatClampNeg (((cd_up (cd_up I 18 (I (p + 12) x4.toNatClampNeg).toNatClampNeg ((I 18 (I (p + 12) x4.toNatClampNeg).toNatClampNeg) + (I 9 ((x3 * 12) + x4).toNatClampNeg))) 19 (I (p + 12) x4.toNatClampNeg).toNatClampNeg (((cd_up I 18 (I (p + 12) x4.toNatClampNeg).toNatClampNeg ((I 18 (I (p + 12) x4.toNatClampNeg).toNatClampNeg) + (I 9 ((x3 * 12) + x4).toNatClampNeg))) 19 (I (p + 12) x4.toNatClampNeg).toNatClampNeg) + ((cd_up I 18 (I (p + 12) x4.toNatClampNeg).toNatClampNeg ((I 18 (I (p + 12) x4.toNatClampNeg).toNatClampNeg) + (I 9 ((x3 * 12) + x4).toNatClampNeg))) 10 ((x3 * 12) + x4).toNatClampNeg))) 20 (I (p + 12) x4.toNatClampNeg).toNatClampNeg) + (((cd_up (cd_up I 18 (I (p + 12) x4.toNatClampNeg).toNatClampNeg ((I 18 (I (p + 12) x4.toNatClampNeg).toNatClampNeg) + (I 9 ((x3 * 12) + x4).toNatClampNeg))) 19 (I (p + 12) x4.toNatClampNeg).toNatClampNeg (((cd_up I 18 (I (p + 12) x4.toNatClampNeg).toNatClampNeg ((I 18 (I (p + 12) x4.toNatClampNeg).toNatClampNeg) + (I 9 ((x3 * 12) + x4).toNatClampNeg))) 19 (I (p + 12) x4.toNatClampNeg).toNatClampNeg) + ((cd_up I 18 (I (p + 12) x4.toNatClampNeg).toNatClampNeg ((I 18 (I (p + 12) x4.toNatClampNeg).toNatClampNeg) + (I 9 ((x3 * 12) + x4).toNatClampNeg))) 10 ((x3 * 12) + x4).toNatClampNeg))) 11 ((x3 * 12) + x4).toNatClampNeg) + ((cd_up (cd_up I 18 (I (p + 12) x4.toNatClampNeg).toNatClampNeg ((I 18 (I (p + 12) x4.toNatClampNeg).toNatClampNeg) + (I 9 ((x3 * 12) + x4).toNatClampNeg))) 19 (I (p + 12) x4.toNatClampNeg).toNatClampNeg (((cd_up I 18 (I (p + 12) x4.toNatClampNeg).toNatClampNeg ((I 18 (I (p + 12) x4.toNatClampNeg).toNatClampNeg) + (I 9 ((x3 * 12) + x4).toNatClampNeg))) 19 (I (p + 12) x4.toNatClampNeg).toNatClampNeg) + ((cd_up I 18 (I (p + 12) x4.toNatClampNeg).toNatClampNeg ((I 18 (I (p + 12) x4.toNatClampNeg).toNatClampNeg) + (I 9 ((x3 * 12) + x4).toNatClampNeg))) 10 ((x3 * 12) + x4).toNatClampNeg))) (s + 3) x4.toNatClampNeg)))) J)) else none) else none) else none) else none) else none) else none) else none) else none) else none) else none) else none) = some r) : cd_go 60 35 [.ref 5, .ref p, .ref s, .int x3, .int x4, w5] [.int s0] (cd_mm L w I J) = some r := by
  refine cd_q60_35 ?_
  simp only [cd_zwI, cd_zwL, cd_zI, cd_zJ, cd_zcp, true_and, if_true, cd_zk_p0_66_83 hp, cd_zR_p0_66_83_15 hp, cd_zk_p12_66_83 hp, cd_zn_p12_66_83 hp, cd_zk_5, cd_zR_5_1, cd_zk_18, cd_zn_18, cd_zR_5_0, cd_zk_6, cd_zR_6_2, cd_zk_9, cd_zn_9, cd_zR_5_2, cd_zk_19, cd_zn_19, cd_zR_6_3, cd_zk_10, cd_zn_10, cd_zR_5_3, cd_zk_20, cd_zn_20, cd_zR_6_4, cd_zk_11, cd_zn_11, cd_zk_s0_22_45 hs, cd_zR_s0_22_45_4 hs, cd_zk_s3_22_45 hs, cd_zn_s3_22_45 hs]
  exact h
set_option maxRecDepth 1000000 in
set_option maxHeartbeats 8000000 in
theorem cd_s61_0 {x1 : Int32} {s : Nat} (hs : s = 22 ∨ s = 45) {L : Nat} {w : Bool} {I : Nat → Nat → Int32} {J : Nat → Nat → Int64} {r : cd_Ret} (h : (if ((((I s 1).toUInt32 >>> (x1.toUInt32 &&& Int32.toUInt32 31)).toInt32) &&& 1) = 0 then (some (some (.int 0), (cd_mm L w I J))) else some (some (.int 1), (cd_mm L w I J))) = some r) : cd_go 61 0 [.ref s, .int x1] [] (cd_mm L w I J) = some r := by
  refine cd_q61_0 ?_
  simp only [cd_zwI, cd_zwL, cd_zI, cd_zJ, cd_zcp, true_and, if_true, cd_zk_s0_22_45 hs]
  exact h
set_option maxRecDepth 1000000 in
set_option maxHeartbeats 8000000 in
theorem cd_s62_0 {x1 : Int32} {L : Nat} {w : Bool} {I : Nat → Nat → Int32} {J : Nat → Nat → Int64} {r : cd_Ret} (h : (if cd_in x1 8 = true then (if cd_in x1 8 = true then (some (some (.int (if (if 0 ≤ (I 18 x1.toNatClampNeg) then (I 18 x1.toNatClampNeg) else 0 - (I 18 x1.toNatClampNeg)) < (if 0 ≤ (I 19 x1.toNatClampNeg) then (I 19 x1.toNatClampNeg) else 0 - (I 19 x1.toNatClampNeg)) then (if 0 ≤ (I 19 x1.toNatClampNeg) then (I 19 x1.toNatClampNeg) else 0 - (I 19 x1.toNatClampNeg)) else (if 0 ≤ (I 18 x1.toNatClampNeg) then (I 18 x1.toNatClampNeg) else 0 - (I 18 x1.toNatClampNeg)))), (cd_mm L w I J))) else none) else none) = some r) : cd_go 62 0 [.ref 5, .int x1] [] (cd_mm L w I J) = some r := by
  refine cd_q62_0 ?_
  simp only [cd_zwI, cd_zwL, cd_zI, cd_zJ, cd_zcp, true_and, if_true, cd_zk_5, cd_zR_5_1, cd_zk_18, cd_zn_18, cd_zR_5_2, cd_zk_19, cd_zn_19]
  exact h
set_option maxRecDepth 1000000 in
set_option maxHeartbeats 8000000 in
theorem cd_s63_0 {x1 : Int32} {x2 : Int32} {L : Nat} {w : Bool} {I : Nat → Nat → Int32} {J : Nat → Nat → Int64} {r : cd_Ret} (h : ((cd_ci (cd_c 49 [.ref 2, .int x1] (cd_mm L w I J))).bind fun q => cd_go 63 3 [.ref 2, .int x1, .int x2] [.int q.1] q.2) = some r) : cd_go 63 0 [.ref 2, .int x1, .int x2] [] (cd_mm L w I J) = some r := by
  refine cd_q63_0 ?_
  simp only [cd_zwI, cd_zwL, cd_zI, cd_zJ, cd_zcp, true_and, if_true, cd_zk_2]
  exact h
set_option maxRecDepth 1000000 in
set_option maxHeartbeats 8000000 in
theorem cd_s63_3 {x1 : Int32} {x2 : Int32} {s0 : Int32} {L : Nat} {w : Bool} {I : Nat → Nat → Int32} {J : Nat → Nat → Int64} {r : cd_Ret} (h : (if s0 = 0 then (some (some (.int (-1001)), (cd_mm L w I J))) else if x2 < 6 then (cd_go 63 27 [.ref 2, .int x1, .int x2] [] (cd_mm L w I J)) else if 8 < x2 then (cd_go 63 27 [.ref 2, .int x1, .int x2] [] (cd_mm L w I J)) else (cd_ci (cd_c 58 [.ref 6, .ref (cd_ple w), .ref 45] (cd_mm L w I J))).bind fun q => cd_go 63 26 [.ref 2, .int x1, .int x2] [.int q.1, .ref 45, .ref (cd_ple w), .ref 5] q.2) = some r) : cd_go 63 3 [.ref 2, .int x1, .int x2] [.int s0] (cd_mm L w I J) = some r := by
  refine cd_q63_3 ?_
  simp only [cd_zwI, cd_zwL, cd_zI, cd_zJ, cd_zcp, true_and, if_true, cd_zk_2, cd_zR_2_1, cd_zR_2_12, cd_zR_2_6, cd_zk_5, cd_zR_5_0, cd_zk_6]
  exact h
set_option maxRecDepth 1000000 in
set_option maxHeartbeats 8000000 in
theorem cd_s63_26 {x1 : Int32} {x2 : Int32} {s3 : Int32} {L : Nat} {w : Bool} {I : Nat → Nat → Int32} {J : Nat → Nat → Int64} {r : cd_Ret} (h : ((cd_cv (cd_c 60 [.ref 5, .ref (cd_ple w), .ref 45, .int s3] (cd_mm L w I J))).bind fun m => cd_go 63 27 [.ref 2, .int x1, .int x2] [] m) = some r) : cd_go 63 26 [.ref 2, .int x1, .int x2] [.int s3, .ref 45, .ref (cd_ple w), .ref 5] (cd_mm L w I J) = some r := by
  refine cd_q63_26 ?_
  simp only [cd_zwI, cd_zwL, cd_zI, cd_zJ, cd_zcp, true_and, if_true, cd_zk_5]
  exact h
set_option maxRecDepth 1000000 in
set_option maxHeartbeats 8000000 in
theorem cd_s63_27 {x1 : Int32} {x2 : Int32} {L : Nat} {w : Bool} {I : Nat → Nat → Int32} {J : Nat → Nat → Int64} {r : cd_Ret} (h : (if x2 = 0 then (if cd_in x1 8 = true then (some (some (.int (I 46 x1.toNatClampNeg)), (cd_mm L w I J))) else none) else if x2 = 1 then (if cd_in x1 8 = true then (some (some (.int (I ((cd_ple w) + 1) x1.toNatClampNeg)), (cd_mm L w I J))) else none) else if x2 = 2 then (if cd_in x1 8 = true then (some (some (.int (I ((cd_ple w) + 2) x1.toNatClampNeg)), (cd_mm L w I J))) else none) else if x2 = 3 then (if cd_in x1 8 = true then (some (some (.int (I ((cd_ple w) + 3) x1.toNatClampNeg)), (cd_mm L w I J))) else none) else if x2 = 4 then (if cd_in x1 8 = true then (some (some (.int (I ((cd_ple w) + 4) x1.toNatClampNeg)), (cd_mm L w I J))) else none) else if x2 = 5 then ((cd_ci (cd_c 61 [.ref 45, .int x1] (cd_mm L w I J))).bind fun q => cd_go 63 63 [.ref 2, .int x1, .int x2] [.int q.1] q.2) else if x2 = 6 then (if cd_in x1 8 = true then (some (some (.int (I 18 x1.toNatClampNeg)), (cd_mm L w I J))) else none) else if x2 = 7 then (if cd_in x1 8 = true then (some (some (.int (I 19 x1.toNatClampNeg)), (cd_mm L w I J))) else none) else if x2 = 8 then ((cd_ci (cd_c 62 [.ref 5, .int x1] (cd_mm L w I J))).bind fun q => cd_go 63 84 [.ref 2, .int x1, .int x2] [.int q.1] q.2) else some (some (.int (-1002)), (cd_mm L w I J))) = some r) : cd_go 63 27 [.ref 2, .int x1, .int x2] [] (cd_mm L w I J) = some r := by
  refine cd_q63_27 ?_
  simp only [cd_zwI, cd_zwL, cd_zI, cd_zJ, cd_zcp, true_and, if_true, cd_zk_2, cd_zR_2_6, cd_zk_45, cd_zR_45_0, cd_zk_46, cd_zn_46, cd_zR_2_12, cd_zk_w0_, cd_zR_w0__4, cd_zk_w1_, cd_zn_w1_, cd_zR_w0__5, cd_zk_w2_, cd_zn_w2_, cd_zR_w0__6, cd_zk_w3_, cd_zn_w3_, cd_zR_w0__7, cd_zk_w4_, cd_zn_w4_, cd_zR_2_1, cd_zk_5, cd_zR_5_1, cd_zk_18, cd_zn_18, cd_zR_5_2, cd_zk_19, cd_zn_19]
  exact h
set_option maxRecDepth 1000000 in
set_option maxHeartbeats 8000000 in
theorem cd_s63_63 {x1 : Int32} {x2 : Int32} {s0 : Int32} {L : Nat} {w : Bool} {I : Nat → Nat → Int32} {J : Nat → Nat → Int64} {r : cd_Ret} (h : (if s0 = 0 then (some (some (.int 0), (cd_mm L w I J))) else some (some (.int 1), (cd_mm L w I J))) = some r) : cd_go 63 63 [.ref 2, .int x1, .int x2] [.int s0] (cd_mm L w I J) = some r := cd_q63_63 h
set_option maxRecDepth 1000000 in
set_option maxHeartbeats 8000000 in
theorem cd_s63_84 {x1 : Int32} {x2 : Int32} {s0 : Int32} {L : Nat} {w : Bool} {I : Nat → Nat → Int32} {J : Nat → Nat → Int64} {r : cd_Ret} (h : (some (some (.int s0), (cd_mm L w I J))) = some r) : cd_go 63 84 [.ref 2, .int x1, .int x2] [.int s0] (cd_mm L w I J) = some r := cd_q63_84 h
set_option maxRecDepth 1000000 in
set_option maxHeartbeats 8000000 in
theorem cd_s64_0 {x1 : Int32} {L : Nat} {w : Bool} {I : Nat → Nat → Int32} {J : Nat → Nat → Int64} {r : cd_Ret} (h : (if x1 < 0 then (some (some (.int 0), (cd_mm L w I J))) else if x1 < (I (cd_ple w) 2) then (some (some (.int 1), (cd_mm L w I J))) else some (some (.int 0), (cd_mm L w I J))) = some r) : cd_go 64 0 [.ref 2, .int x1] [] (cd_mm L w I J) = some r := by
  refine cd_q64_0 ?_
  simp only [cd_zwI, cd_zwL, cd_zI, cd_zJ, cd_zcp, true_and, if_true, cd_zk_2, cd_zR_2_12, cd_zk_w0_]
  exact h
set_option maxRecDepth 1000000 in
set_option maxHeartbeats 8000000 in
theorem cd_s65_0 {x1 : Int32} {x2 : Int32} {L : Nat} {w : Bool} {I : Nat → Nat → Int32} {J : Nat → Nat → Int64} {r : cd_Ret} (h : (if cd_in ((x1 * 12) + x2) 3072 = true then (if cd_in ((x1 * 12) + x2) 3072 = true then (some (some (.int (if (if 0 ≤ (I 9 ((x1 * 12) + x2).toNatClampNeg) then (I 9 ((x1 * 12) + x2).toNatClampNeg) else 0 - (I 9 ((x1 * 12) + x2).toNatClampNeg)) < (if 0 ≤ (I 10 ((x1 * 12) + x2).toNatClampNeg) then (I 10 ((x1 * 12) + x2).toNatClampNeg) else 0 - (I 10 ((x1 * 12) + x2).toNatClampNeg)) then (if 0 ≤ (I 10 ((x1 * 12) + x2).toNatClampNeg) then (I 10 ((x1 * 12) + x2).toNatClampNeg) else 0 - (I 10 ((x1 * 12) + x2).toNatClampNeg)) else (if 0 ≤ (I 9 ((x1 * 12) + x2).toNatClampNeg) then (I 9 ((x1 * 12) + x2).toNatClampNeg) else 0 - (I 9 ((x1 * 12) + x2).toNatClampNeg)))), (cd_mm L w I J))) else none) else none) = some r) : cd_go 65 0 [.ref 6, .int x1, .int x2, .null] [] (cd_mm L w I J) = some r := by
  refine cd_q65_0 ?_
  simp only [cd_zwI, cd_zwL, cd_zI, cd_zJ, cd_zcp, true_and, if_true, cd_zk_6, cd_zR_6_2, cd_zk_9, cd_zn_9, cd_zR_6_3, cd_zk_10, cd_zn_10]
  exact h
set_option maxRecDepth 1000000 in
set_option maxHeartbeats 8000000 in
theorem cd_s66_0 {x1 : Int32} {x2 : Int32} {L : Nat} {w : Bool} {I : Nat → Nat → Int32} {J : Nat → Nat → Int64} {r : cd_Ret} (h : (if cd_in ((x1 * 12) + x2) 3072 = true then (some (some (.int (I 11 ((x1 * 12) + x2).toNatClampNeg)), (cd_mm L w I J))) else none) = some r) : cd_go 66 0 [.ref 6, .int x1, .int x2] [] (cd_mm L w I J) = some r := by
  refine cd_q66_0 ?_
  simp only [cd_zwI, cd_zwL, cd_zI, cd_zJ, cd_zcp, true_and, if_true, cd_zk_6, cd_zR_6_4, cd_zk_11, cd_zn_11]
  exact h
set_option maxRecDepth 1000000 in
set_option maxHeartbeats 8000000 in
theorem cd_s67_0 {x1 : Int32} {x2 : Int32} {L : Nat} {w : Bool} {I : Nat → Nat → Int32} {J : Nat → Nat → Int64} {r : cd_Ret} (h : ((cd_ci (cd_c 64 [.ref 2, .int x1] (cd_mm L w I J))).bind fun q => cd_go 67 3 [.ref 2, .int x1, .int x2] [.int q.1] q.2) = some r) : cd_go 67 0 [.ref 2, .int x1, .int x2] [] (cd_mm L w I J) = some r := by
  refine cd_q67_0 ?_
  simp only [cd_zwI, cd_zwL, cd_zI, cd_zJ, cd_zcp, true_and, if_true, cd_zk_2]
  exact h
set_option maxRecDepth 1000000 in
set_option maxHeartbeats 8000000 in
theorem cd_s67_3 {x1 : Int32} {x2 : Int32} {s0 : Int32} {L : Nat} {w : Bool} {I : Nat → Nat → Int32} {J : Nat → Nat → Int64} {r : cd_Ret} (h : (if s0 = 0 then (some (some (.int (-1001)), (cd_mm L w I J))) else if x2 = 0 then (if cd_in x1 12 = true then (some (some (.int (I ((cd_ple w) + 11) x1.toNatClampNeg)), (cd_mm L w I J))) else none) else if x2 = 1 then (if cd_in x1 12 = true then (some (some (.int (I ((cd_ple w) + 12) x1.toNatClampNeg)), (cd_mm L w I J))) else none) else if x2 = 2 then (if cd_in x1 12 = true then (some (some (.int (I 47 x1.toNatClampNeg)), (cd_mm L w I J))) else none) else if x2 = 3 then (if cd_in x1 12 = true then (some (some (.int (I 48 x1.toNatClampNeg)), (cd_mm L w I J))) else none) else if x2 = 4 then ((cd_ci (cd_c 59 [.ref 45, .int x1] (cd_mm L w I J))).bind fun q => cd_go 67 36 [.ref 2, .int x1, .int x2] [.int q.1] q.2) else if x2 = 5 then ((cd_ci (cd_c 58 [.ref 6, .ref (cd_ple w), .ref 45] (cd_mm L w I J))).bind fun q => cd_go 67 52 [.ref 2, .int x1, .int x2] [.int q.1, .ref 6] q.2) else if x2 = 6 then ((cd_ci (cd_c 58 [.ref 6, .ref (cd_ple w), .ref 45] (cd_mm L w I J))).bind fun q => cd_go 67 66 [.ref 2, .int x1, .int x2] [.int q.1, .ref 6] q.2) else some (some (.int (-1002)), (cd_mm L w I J))) = some r) : cd_go 67 3 [.ref 2, .int x1, .int x2] [.int s0] (cd_mm L w I J) = some r := by
  refine cd_q67_3 ?_
  simp only [cd_zwI, cd_zwL, cd_zI, cd_zJ, cd_zcp, true_and, if_true, cd_zk_2, cd_zR_2_12, cd_zk_w0_, cd_zR_w0__14, cd_zk_w11_, cd_zn_w11_, cd_zR_w0__15, cd_zk_w12_, cd_zn_w12_, cd_zR_2_6, cd_zk_45, cd_zR_45_3, cd_zk_47, cd_zn_47, cd_zR_45_4, cd_zk_48, cd_zn_48, cd_zR_2_1, cd_zk_5, cd_zR_5_0, cd_zk_6]
  exact h
set_option maxRecDepth 1000000 in
set_option maxHeartbeats 8000000 in
theorem cd_s67_36 {x1 : Int32} {x2 : Int32} {s0 : Int32} {L : Nat} {w : Bool} {I : Nat → Nat → Int32} {J : Nat → Nat → Int64} {r : cd_Ret} (h : (if s0 = 0 then (some (some (.int 0), (cd_mm L w I J))) else some (some (.int 1), (cd_mm L w I J))) = some r) : cd_go 67 36 [.ref 2, .int x1, .int x2] [.int s0] (cd_mm L w I J) = some r := cd_q67_36 h
set_option maxRecDepth 1000000 in
set_option maxHeartbeats 8000000 in
theorem cd_s67_52 {x1 : Int32} {x2 : Int32} {s1 : Int32} {L : Nat} {w : Bool} {I : Nat → Nat → Int32} {J : Nat → Nat → Int64} {r : cd_Ret} (h : ((cd_ci (cd_c 65 [.ref 6, .int s1, .int x1] (cd_mm L w I J))).bind fun q => cd_go 67 54 [.ref 2, .int x1, .int x2] [.int q.1] q.2) = some r) : cd_go 67 52 [.ref 2, .int x1, .int x2] [.int s1, .ref 6] (cd_mm L w I J) = some r := by
  refine cd_q67_52 ?_
  simp only [cd_zwI, cd_zwL, cd_zI, cd_zJ, cd_zcp, true_and, if_true, cd_zk_6]
  exact h
set_option maxRecDepth 1000000 in
set_option maxHeartbeats 8000000 in
theorem cd_s67_54 {x1 : Int32} {x2 : Int32} {s0 : Int32} {L : Nat} {w : Bool} {I : Nat → Nat → Int32} {J : Nat → Nat → Int64} {r : cd_Ret} (h : (some (some (.int s0), (cd_mm L w I J))) = some r) : cd_go 67 54 [.ref 2, .int x1, .int x2] [.int s0] (cd_mm L w I J) = some r := cd_q67_54 h
set_option maxRecDepth 1000000 in
set_option maxHeartbeats 8000000 in
theorem cd_s67_66 {x1 : Int32} {x2 : Int32} {s1 : Int32} {L : Nat} {w : Bool} {I : Nat → Nat → Int32} {J : Nat → Nat → Int64} {r : cd_Ret} (h : ((cd_ci (cd_c 66 [.ref 6, .int s1, .int x1] (cd_mm L w I J))).bind fun q => cd_go 67 68 [.ref 2, .int x1, .int x2] [.int q.1] q.2) = some r) : cd_go 67 66 [.ref 2, .int x1, .int x2] [.int s1, .ref 6] (cd_mm L w I J) = some r := by
  refine cd_q67_66 ?_
  simp only [cd_zwI, cd_zwL, cd_zI, cd_zJ, cd_zcp, true_and, if_true, cd_zk_6]
  exact h
set_option maxRecDepth 1000000 in
set_option maxHeartbeats 8000000 in
theorem cd_s67_68 {x1 : Int32} {x2 : Int32} {s0 : Int32} {L : Nat} {w : Bool} {I : Nat → Nat → Int32} {J : Nat → Nat → Int64} {r : cd_Ret} (h : (some (some (.int s0), (cd_mm L w I J))) = some r) : cd_go 67 68 [.ref 2, .int x1, .int x2] [.int s0] (cd_mm L w I J) = some r := cd_q67_68 h
set_option maxRecDepth 1000000 in
set_option maxHeartbeats 8000000 in
theorem cd_s68_0 {x1 : Int32} {L : Nat} {w : Bool} {I : Nat → Nat → Int32} {J : Nat → Nat → Int64} {r : cd_Ret} (h : (if x1 < 0 then (some (some (.int 0), (cd_mm L w I J))) else if x1 < (I (cd_ple w) 1) then (some (some (.int 1), (cd_mm L w I J))) else some (some (.int 0), (cd_mm L w I J))) = some r) : cd_go 68 0 [.ref 2, .int x1] [] (cd_mm L w I J) = some r := by
  refine cd_q68_0 ?_
  simp only [cd_zwI, cd_zwL, cd_zI, cd_zJ, cd_zcp, true_and, if_true, cd_zk_2, cd_zR_2_12, cd_zk_w0_]
  exact h
set_option maxRecDepth 1000000 in
set_option maxHeartbeats 8000000 in
theorem cd_s69_0 {x1 : Int32} {L : Nat} {w : Bool} {I : Nat → Nat → Int32} {J : Nat → Nat → Int64} {r : cd_Ret} (h : (if x1 < 0 then (some (some (.int 0), (cd_mm L w I J))) else if x1 < 64 then (some (some (.int 1), (cd_mm L w I J))) else some (some (.int 0), (cd_mm L w I J))) = some r) : cd_go 69 0 [.ref 2, .int x1] [] (cd_mm L w I J) = some r := cd_q69_0 h
set_option maxRecDepth 1000000 in
set_option maxHeartbeats 8000000 in
theorem cd_s70_0 {x1 : Int32} {x2 : Int32} {L : Nat} {w : Bool} {I : Nat → Nat → Int32} {J : Nat → Nat → Int64} {r : cd_Ret} (h : ((cd_ci (cd_c 68 [.ref 2, .int x1] (cd_mm L w I J))).bind fun q => cd_go 70 3 [.ref 2, .int x1, .int x2] [.int q.1] q.2) = some r) : cd_go 70 0 [.ref 2, .int x1, .int x2] [] (cd_mm L w I J) = some r := by
  refine cd_q70_0 ?_
  simp only [cd_zwI, cd_zwL, cd_zI, cd_zJ, cd_zcp, true_and, if_true, cd_zk_2]
  exact h
set_option maxRecDepth 1000000 in
set_option maxHeartbeats 8000000 in
theorem cd_s70_3 {x1 : Int32} {x2 : Int32} {s0 : Int32} {L : Nat} {w : Bool} {I : Nat → Nat → Int32} {J : Nat → Nat → Int64} {r : cd_Ret} (h : (if s0 = 0 then (some (some (.int (-1001)), (cd_mm L w I J))) else (cd_ci (cd_c 69 [.ref 2, .int x2] (cd_mm L w I J))).bind fun q => cd_go 70 7 [.ref 2, .int x1, .int x2] [.int q.1] q.2) = some r) : cd_go 70 3 [.ref 2, .int x1, .int x2] [.int s0] (cd_mm L w I J) = some r := by
  refine cd_q70_3 ?_
  simp only [cd_zwI, cd_zwL, cd_zI, cd_zJ, cd_zcp, true_and, if_true, cd_zk_2]
  exact h
set_option maxRecDepth 1000000 in
set_option maxHeartbeats 8000000 in
theorem cd_s70_7 {x1 : Int32} {x2 : Int32} {s0 : Int32} {L : Nat} {w : Bool} {I : Nat → Nat → Int32} {J : Nat → Nat → Int64} {r : cd_Ret} (h : (if s0 = 0 then (some (some (.int (-1001)), (cd_mm L w I J))) else (cd_cv (cd_c 53 [.ref 38, .ref (cd_ple w), .ref 45] (cd_mm L w I J))).bind fun m => cd_go 70 17 [.ref 2, .int x1, .int x2] [] m) = some r) : cd_go 70 7 [.ref 2, .int x1, .int x2] [.int s0] (cd_mm L w I J) = some r := by
  refine cd_q70_7 ?_
  simp only [cd_zwI, cd_zwL, cd_zI, cd_zJ, cd_zcp, true_and, if_true, cd_zk_2, cd_zR_2_4, cd_zR_2_12, cd_zR_2_6, cd_zk_38]
  exact h
set_option maxRecDepth 1000000 in
set_option maxHeartbeats 8000000 in
theorem cd_s70_17 {x1 : Int32} {x2 : Int32} {L : Nat} {w : Bool} {I : Nat → Nat → Int32} {J : Nat → Nat → Int64} {r : cd_Ret} (h : (if cd_in ((x1 * 64) + x2) 192 = true then (some (some (.int (I 39 ((x1 * 64) + x2).toNatClampNeg)), (cd_mm L w I J))) else none) = some r) : cd_go 70 17 [.ref 2, .int x1, .int x2] [] (cd_mm L w I J) = some r := by
  refine cd_q70_17 ?_
  simp only [cd_zwI, cd_zwL, cd_zI, cd_zJ, cd_zcp, true_and, if_true, cd_zk_2, cd_zR_2_4, cd_zk_38, cd_zR_38_0, cd_zk_39, cd_zn_39]
  exact h
set_option maxRecDepth 1000000 in
set_option maxHeartbeats 8000000 in
theorem cd_s71_0 {x1 : Int32} {x2 : Int32} {L : Nat} {w : Bool} {I : Nat → Nat → Int32} {J : Nat → Nat → Int64} {r : cd_Ret} (h : ((cd_ci (cd_c 68 [.ref 2, .int x1] (cd_mm L w I J))).bind fun q => cd_go 71 3 [.ref 2, .int x1, .int x2] [.int q.1] q.2) = some r) : cd_go 71 0 [.ref 2, .int x1, .int x2] [] (cd_mm L w I J) = some r := by
  refine cd_q71_0 ?_
  simp only [cd_zwI, cd_zwL, cd_zI, cd_zJ, cd_zcp, true_and, if_true, cd_zk_2]
  exact h
set_option maxRecDepth 1000000 in
set_option maxHeartbeats 8000000 in
theorem cd_s71_3 {x1 : Int32} {x2 : Int32} {s0 : Int32} {L : Nat} {w : Bool} {I : Nat → Nat → Int32} {J : Nat → Nat → Int64} {r : cd_Ret} (h : (if s0 = 0 then (some (some (.int (-1001)), (cd_mm L w I J))) else (cd_ci (cd_c 69 [.ref 2, .int x2] (cd_mm L w I J))).bind fun q => cd_go 71 7 [.ref 2, .int x1, .int x2] [.int q.1] q.2) = some r) : cd_go 71 3 [.ref 2, .int x1, .int x2] [.int s0] (cd_mm L w I J) = some r := by
  refine cd_q71_3 ?_
  simp only [cd_zwI, cd_zwL, cd_zI, cd_zJ, cd_zcp, true_and, if_true, cd_zk_2]
  exact h
set_option maxRecDepth 1000000 in
set_option maxHeartbeats 8000000 in
theorem cd_s71_7 {x1 : Int32} {x2 : Int32} {s0 : Int32} {L : Nat} {w : Bool} {I : Nat → Nat → Int32} {J : Nat → Nat → Int64} {r : cd_Ret} (h : (if s0 = 0 then (some (some (.int (-1001)), (cd_mm L w I J))) else (cd_ci (cd_c 29 [.ref (cd_ple w), .int x1, .int x2] (cd_mm L w I J))).bind fun q => cd_go 71 15 [.ref 2, .int x1, .int x2] [.int q.1] q.2) = some r) : cd_go 71 7 [.ref 2, .int x1, .int x2] [.int s0] (cd_mm L w I J) = some r := by
  refine cd_q71_7 ?_
  simp only [cd_zwI, cd_zwL, cd_zI, cd_zJ, cd_zcp, true_and, if_true, cd_zk_2, cd_zR_2_12, cd_zk_w0_]
  exact h
set_option maxRecDepth 1000000 in
set_option maxHeartbeats 8000000 in
theorem cd_s71_15 {x1 : Int32} {x2 : Int32} {s0 : Int32} {L : Nat} {w : Bool} {I : Nat → Nat → Int32} {J : Nat → Nat → Int64} {r : cd_Ret} (h : (if s0 = 0 then (some (some (.int (-1003)), (cd_mm L w I J))) else (cd_cv (cd_c 53 [.ref 38, .ref (cd_ple w), .ref 45] (cd_mm L w I J))).bind fun m => cd_go 71 25 [.ref 2, .int x1, .int x2] [] m) = some r) : cd_go 71 15 [.ref 2, .int x1, .int x2] [.int s0] (cd_mm L w I J) = some r := by
  refine cd_q71_15 ?_
  simp only [cd_zwI, cd_zwL, cd_zI, cd_zJ, cd_zcp, true_and, if_true, cd_zk_2, cd_zR_2_4, cd_zR_2_12, cd_zR_2_6, cd_zk_38]
  exact h
set_option maxRecDepth 1000000 in
set_option maxHeartbeats 8000000 in
theorem cd_s71_25 {x1 : Int32} {x2 : Int32} {L : Nat} {w : Bool} {I : Nat → Nat → Int32} {J : Nat → Nat → Int64} {r : cd_Ret} (h : (if cd_in ((x1 * 64) + x2) 192 = true then (some (some (.int (I 40 ((x1 * 64) + x2).toNatClampNeg)), (cd_mm L w I J))) else none) = some r) : cd_go 71 25 [.ref 2, .int x1, .int x2] [] (cd_mm L w I J) = some r := by
  refine cd_q71_25 ?_
  simp only [cd_zwI, cd_zwL, cd_zI, cd_zJ, cd_zcp, true_and, if_true, cd_zk_2, cd_zR_2_4, cd_zk_38, cd_zR_38_1, cd_zk_40, cd_zn_40]
  exact h
set_option maxRecDepth 1000000 in
set_option maxHeartbeats 8000000 in
theorem cd_s72_0 {x1 : Int32} {z : Nat} (hz : z = 14 ∨ z = 38) {L : Nat} {w : Bool} {I : Nat → Nat → Int32} {J : Nat → Nat → Int64} {r : cd_Ret} (h : (cd_go 72 4 [.ref z, .int x1, .int (-1), .int x1] [] (cd_mm L w I J)) = some r) : cd_go 72 0 [.ref z, .int x1, .null, .null] [] (cd_mm L w I J) = some r := cd_q72_0 h
set_option maxRecDepth 1000000 in
set_option maxHeartbeats 8000000 in
theorem cd_s72_4 {x1 : Int32} {x2 : Int32} {x3 : Int32} {z : Nat} (hz : z = 14 ∨ z = 38) {L : Nat} {w : Bool} {I : Nat → Nat → Int32} {J : Nat → Nat → Int64} {r : cd_Ret} (h : (if x3 < 192 then (if cd_in x3 192 = true then (cd_go 72 4 [.ref z, .int x1, .int (if x2 < (I (z + 1) x3.toNatClampNeg) then (I (z + 1) x3.toNatClampNeg) else x2), .int (x3 + 64)] [] (cd_mm L w I J)) else none) else some (some (.int x2), (cd_mm L w I J))) = some r) : cd_go 72 4 [.ref z, .int x1, .int x2, .int x3] [] (cd_mm L w I J) = some r := by
  refine cd_q72_4 ?_
  simp only [cd_zwI, cd_zwL, cd_zI, cd_zJ, cd_zcp, true_and, if_true, cd_zk_z0_14_38 hz, cd_zR_z0_14_38_0 hz, cd_zk_z1_14_38 hz, cd_zn_z1_14_38 hz]
  exact h
set_option maxRecDepth 1000000 in
set_option maxHeartbeats 8000000 in
theorem cd_s73_0 {x1 : Int32} {L : Nat} {w : Bool} {I : Nat → Nat → Int32} {J : Nat → Nat → Int64} {r : cd_Ret} (h : ((cd_ci (cd_c 69 [.ref 2, .int x1] (cd_mm L w I J))).bind fun q => cd_go 73 3 [.ref 2, .int x1] [.int q.1] q.2) = some r) : cd_go 73 0 [.ref 2, .int x1] [] (cd_mm L w I J) = some r := by
  refine cd_q73_0 ?_
  simp only [cd_zwI, cd_zwL, cd_zI, cd_zJ, cd_zcp, true_and, if_true, cd_zk_2]
  exact h
set_option maxRecDepth 1000000 in
set_option maxHeartbeats 8000000 in
theorem cd_s73_3 {x1 : Int32} {s0 : Int32} {L : Nat} {w : Bool} {I : Nat → Nat → Int32} {J : Nat → Nat → Int64} {r : cd_Ret} (h : (if s0 = 0 then (some (some (.int (-1001)), (cd_mm L w I J))) else (cd_cv (cd_c 53 [.ref 38, .ref (cd_ple w), .ref 45] (cd_mm L w I J))).bind fun m => cd_go 73 13 [.ref 2, .int x1] [] m) = some r) : cd_go 73 3 [.ref 2, .int x1] [.int s0] (cd_mm L w I J) = some r := by
  refine cd_q73_3 ?_
  simp only [cd_zwI, cd_zwL, cd_zI, cd_zJ, cd_zcp, true_and, if_true, cd_zk_2, cd_zR_2_4, cd_zR_2_12, cd_zR_2_6, cd_zk_38]
  exact h
set_option maxRecDepth 1000000 in
set_option maxHeartbeats 8000000 in
theorem cd_s73_13 {x1 : Int32} {L : Nat} {w : Bool} {I : Nat → Nat → Int32} {J : Nat → Nat → Int64} {r : cd_Ret} (h : ((cd_ci (cd_c 72 [.ref 38, .int x1] (cd_mm L w I J))).bind fun q => cd_go 73 17 [.ref 2, .int x1] [.int q.1] q.2) = some r) : cd_go 73 13 [.ref 2, .int x1] [] (cd_mm L w I J) = some r := by
  refine cd_q73_13 ?_
  simp only [cd_zwI, cd_zwL, cd_zI, cd_zJ, cd_zcp, true_and, if_true, cd_zk_2, cd_zR_2_4, cd_zk_38]
  exact h
set_option maxRecDepth 1000000 in
set_option maxHeartbeats 8000000 in
theorem cd_s73_17 {x1 : Int32} {s0 : Int32} {L : Nat} {w : Bool} {I : Nat → Nat → Int32} {J : Nat → Nat → Int64} {r : cd_Ret} (h : (some (some (.int s0), (cd_mm L w I J))) = some r) : cd_go 73 17 [.ref 2, .int x1] [.int s0] (cd_mm L w I J) = some r := cd_q73_17 h
set_option maxRecDepth 1000000 in
set_option maxHeartbeats 8000000 in
theorem cd_s74_0 {x0 : Int32} {L : Nat} {w : Bool} {I : Nat → Nat → Int32} {J : Nat → Nat → Int64} {r : cd_Ret} (h : (if x0 < 0 then (some (some (.int 0), (cd_mm L w I J))) else if 999 < x0 then (some (some (.int 0), (cd_mm L w I J))) else some (some (.int 1), (cd_mm L w I J))) = some r) : cd_go 74 0 [.int x0] [] (cd_mm L w I J) = some r := cd_q74_0 h
set_option maxRecDepth 1000000 in
set_option maxHeartbeats 8000000 in
theorem cd_s75_0 {x3 : Int32} {x4 : Int32} {x5 : Int32} {p : Nat} (hp : p = 66 ∨ p = 83) {s : Nat} (hs : s = 22 ∨ s = 45) {L : Nat} {w : Bool} {I : Nat → Nat → Int32} {J : Nat → Nat → Int64} {r : cd_Ret} (h : ((cd_ci (cd_c 65 [.ref 6, .int x3, .int x4] (cd_mm L w I J))).bind fun q => cd_go 75 5 [.ref 5, .ref p, .ref s, .int x3, .int x4, .int x5, .null] [.int q.1] q.2) = some r) : cd_go 75 0 [.ref 5, .ref p, .ref s, .int x3, .int x4, .int x5, .null] [] (cd_mm L w I J) = some r := by
  refine cd_q75_0 ?_
  simp only [cd_zwI, cd_zwL, cd_zI, cd_zJ, cd_zcp, true_and, if_true, cd_zk_5, cd_zR_5_0, cd_zk_6]
  exact h
set_option maxRecDepth 1000000 in
set_option maxHeartbeats 8000000 in
theorem cd_s75_5 {x3 : Int32} {x4 : Int32} {x5 : Int32} {s0 : Int32} {p : Nat} (hp : p = 66 ∨ p = 83) {s : Nat} (hs : s = 22 ∨ s = 45) {L : Nat} {w : Bool} {I : Nat → Nat → Int32} {J : Nat → Nat → Int64} {r : cd_Ret} (h : (if cd_in x4 12 = true then (if (I (s + 2) x4.toNatClampNeg) = 0 then ((cd_ci (cd_c 66 [.ref 6, .int x3, .int x4] (cd_mm L w I J))).bind fun q => cd_go 75 19 [.ref 5, .ref p, .ref s, .int x3, .int x4, .int x5, .int (s0 + x5)] [.int q.1, .int (s0 + x5)] q.2) else if (I (s + 2) x4.toNatClampNeg) = 1 then (if 40 < (s0 + x5) then (some (some (.int 1), (cd_mm L w I J))) else some (some (.int 0), (cd_mm L w I J))) else if (I (s + 2) x4.toNatClampNeg) = 2 then (if cd_in x4 12 = true then (if ((2 : Int32) * (I (s + 3) x4.toNatClampNeg)) < (s0 + x5) then (some (some (.int 1), (cd_mm L w I J))) else some (some (.int 0), (cd_mm L w I J))) else none) else if (I (s + 2) x4.toNatClampNeg) = 3 then (if 80 < (s0 + x5) then (some (some (.int 1), (cd_mm L w I J))) else some (some (.int 0), (cd_mm L w I J))) else some (some (.int 0), (cd_mm L w I J))) else none) = some r) : cd_go 75 5 [.ref 5, .ref p, .ref s, .int x3, .int x4, .int x5, .null] [.int s0] (cd_mm L w I J) = some r := by
  refine cd_q75_5 ?_
  simp only [cd_zwI, cd_zwL, cd_zI, cd_zJ, cd_zcp, true_and, if_true, cd_zk_s0_22_45 hs, cd_zR_s0_22_45_3 hs, cd_zk_s2_22_45 hs, cd_zn_s2_22_45 hs, cd_zk_5, cd_zR_5_0, cd_zk_6, cd_zR_s0_22_45_4 hs, cd_zk_s3_22_45 hs, cd_zn_s3_22_45 hs]
  exact h
set_option maxRecDepth 1000000 in
set_option maxHeartbeats 8000000 in
theorem cd_s75_19 {x3 : Int32} {x4 : Int32} {x5 : Int32} {x6 : Int32} {s0 : Int32} {s1 : Int32} {p : Nat} (hp : p = 66 ∨ p = 83) {s : Nat} (hs : s = 22 ∨ s = 45) {L : Nat} {w : Bool} {I : Nat → Nat → Int32} {J : Nat → Nat → Int64} {r : cd_Ret} (h : (if cd_in x4 12 = true then (if cd_in (I (p + 12) x4.toNatClampNeg) 8 = true then (if ((s1 * (I (p + 3) (I (p + 12) x4.toNatClampNeg).toNatClampNeg)) / 10) < s0 then (some (some (.int 1), (cd_mm L w I J))) else some (some (.int 0), (cd_mm L w I J))) else none) else none) = some r) : cd_go 75 19 [.ref 5, .ref p, .ref s, .int x3, .int x4, .int x5, .int x6] [.int s1, .int s0] (cd_mm L w I J) = some r := by
  refine cd_q75_19 ?_
  simp only [cd_zwI, cd_zwL, cd_zI, cd_zJ, cd_zcp, true_and, if_true, cd_zk_p0_66_83 hp, cd_zR_p0_66_83_6 hp, cd_zR_p0_66_83_15 hp, cd_zk_p12_66_83 hp, cd_zn_p12_66_83 hp, cd_zk_p3_66_83 hp, cd_zn_p3_66_83 hp]
  exact h
set_option maxRecDepth 1000000 in
set_option maxHeartbeats 8000000 in
theorem cd_s76_0 {x1 : Int32} {x2 : Int32} {L : Nat} {w : Bool} {I : Nat → Nat → Int32} {J : Nat → Nat → Int64} {r : cd_Ret} (h : ((cd_ci (cd_c 64 [.ref 2, .int x1] (cd_mm L w I J))).bind fun q => cd_go 76 3 [.ref 2, .int x1, .int x2, .null] [.int q.1] q.2) = some r) : cd_go 76 0 [.ref 2, .int x1, .int x2, .null] [] (cd_mm L w I J) = some r := by
  refine cd_q76_0 ?_
  simp only [cd_zwI, cd_zwL, cd_zI, cd_zJ, cd_zcp, true_and, if_true, cd_zk_2]
  exact h
set_option maxRecDepth 1000000 in
set_option maxHeartbeats 8000000 in
theorem cd_s76_3 {x1 : Int32} {x2 : Int32} {s0 : Int32} {L : Nat} {w : Bool} {I : Nat → Nat → Int32} {J : Nat → Nat → Int64} {r : cd_Ret} (h : (if s0 = 0 then (some (some (.int (-1001)), (cd_mm L w I J))) else (cd_ci (cd_c 74 [.int x2] (cd_mm L w I J))).bind fun q => cd_go 76 8 [.ref 2, .int x1, .int x2, .null] [.int q.1] q.2) = some r) : cd_go 76 3 [.ref 2, .int x1, .int x2, .null] [.int s0] (cd_mm L w I J) = some r := cd_q76_3 h
set_option maxRecDepth 1000000 in
set_option maxHeartbeats 8000000 in
theorem cd_s76_8 {x1 : Int32} {x2 : Int32} {s0 : Int32} {L : Nat} {w : Bool} {I : Nat → Nat → Int32} {J : Nat → Nat → Int64} {r : cd_Ret} (h : (if s0 = 0 then (some (some (.int (-1002)), (cd_mm L w I J))) else (cd_ci (cd_c 59 [.ref 45, .int x1] (cd_mm L w I J))).bind fun q => cd_go 76 15 [.ref 2, .int x1, .int x2, .null] [.int q.1] q.2) = some r) : cd_go 76 8 [.ref 2, .int x1, .int x2, .null] [.int s0] (cd_mm L w I J) = some r := by
  refine cd_q76_8 ?_
  simp only [cd_zwI, cd_zwL, cd_zI, cd_zJ, cd_zcp, true_and, if_true, cd_zk_2, cd_zR_2_6, cd_zk_45]
  exact h
set_option maxRecDepth 1000000 in
set_option maxHeartbeats 8000000 in
theorem cd_s76_15 {x1 : Int32} {x2 : Int32} {s0 : Int32} {L : Nat} {w : Bool} {I : Nat → Nat → Int32} {J : Nat → Nat → Int64} {r : cd_Ret} (h : (if s0 = 0 then (some (some (.int (-1003)), (cd_mm L w I J))) else (cd_ci (cd_c 58 [.ref 6, .ref (cd_ple w), .ref 45] (cd_mm L w I J))).bind fun q => cd_go 76 26 [.ref 2, .int x1, .int x2, .null] [.int q.1] q.2) = some r) : cd_go 76 15 [.ref 2, .int x1, .int x2, .null] [.int s0] (cd_mm L w I J) = some r := by
  refine cd_q76_15 ?_
  simp only [cd_zwI, cd_zwL, cd_zI, cd_zJ, cd_zcp, true_and, if_true, cd_zk_2, cd_zR_2_1, cd_zk_5, cd_zR_5_0, cd_zR_2_12, cd_zR_2_6, cd_zk_6]
  exact h
set_option maxRecDepth 1000000 in
set_option maxHeartbeats 8000000 in
theorem cd_s76_26 {x1 : Int32} {x2 : Int32} {s0 : Int32} {L : Nat} {w : Bool} {I : Nat → Nat → Int32} {J : Nat → Nat → Int64} {r : cd_Ret} (h : ((cd_ci (cd_c 75 [.ref 5, .ref (cd_ple w), .ref 45, .int s0, .int x1, .int x2] (cd_mm L w I J))).bind fun q => cd_go 76 37 [.ref 2, .int x1, .int x2, .int s0] [.int q.1] q.2) = some r) : cd_go 76 26 [.ref 2, .int x1, .int x2, .null] [.int s0] (cd_mm L w I J) = some r := by
  refine cd_q76_26 ?_
  simp only [cd_zwI, cd_zwL, cd_zI, cd_zJ, cd_zcp, true_and, if_true, cd_zk_2, cd_zR_2_1, cd_zR_2_12, cd_zR_2_6, cd_zk_5]
  exact h
set_option maxRecDepth 1000000 in
set_option maxHeartbeats 8000000 in
theorem cd_s76_37 {x1 : Int32} {x2 : Int32} {x3 : Int32} {s0 : Int32} {L : Nat} {w : Bool} {I : Nat → Nat → Int32} {J : Nat → Nat → Int64} {r : cd_Ret} (h : (if s0 = 0 then (some (some (.int 0), (cd_mm L w I J))) else some (some (.int 1), (cd_mm L w I J))) = some r) : cd_go 76 37 [.ref 2, .int x1, .int x2, .int x3] [.int s0] (cd_mm L w I J) = some r := cd_q76_37 h
set_option maxRecDepth 1000000 in
set_option maxHeartbeats 8000000 in
theorem cd_s77_0 {x1 : Int32} {x2 : Int32} {x3 : Int32} {L : Nat} {w : Bool} {I : Nat → Nat → Int32} {J : Nat → Nat → Int64} {r : cd_Ret} (h : (some (some (.int 0), (cd_mm L w (cd_up (cd_up (cd_up I 5 4 x1) 5 5 x2) 5 6 x3) J))) = some r) : cd_go 77 0 [.ref 5, .int x1, .int x2, .int x3] [] (cd_mm L w I J) = some r := by
  refine cd_q77_0 ?_
  simp only [cd_zwI, cd_zwL, cd_zI, cd_zJ, cd_zcp, true_and, if_true, cd_zk_5]
  exact h
set_option maxRecDepth 1000000 in
set_option maxHeartbeats 8000000 in
theorem cd_s78_0 {x3 : Int32} {p : Nat} (hp : p = 66 ∨ p = 83) {s : Nat} (hs : s = 22 ∨ s = 45) {L : Nat} {w : Bool} {I : Nat → Nat → Int32} {J : Nat → Nat → Int64} {r : cd_Ret} (h : (if cd_in x3 8 = true then (if cd_in x3 8 = true then (if cd_in x3 8 = true then (if (I 18 x3.toNatClampNeg) = 0 then (if cd_in x3 8 = true then (if (I 19 x3.toNatClampNeg) = 0 then (cd_go 78 60 [.ref 5, .ref p, .ref s, .int x3, .int (((I (s + 1) x3.toNatClampNeg) / 8) + 1), .int ((I (s + 1) x3.toNatClampNeg) - (I (s + 1) x3.toNatClampNeg) / 8 * 8), .null] [] (cd_mm L w I J)) else if cd_in x3 8 = true then (if cd_in x3 8 = true then (if (if 0 ≤ (I 18 x3.toNatClampNeg) then (I 18 x3.toNatClampNeg) else 0 - (I 18 x3.toNatClampNeg)) < (if 0 ≤ (I 19 x3.toNatClampNeg) then (I 19 x3.toNatClampNeg) else 0 - (I 19 x3.toNatClampNeg)) then (if cd_in x3 8 = true then (if 0 < (I 19 x3.toNatClampNeg) then (cd_go 78 60 [.ref 5, .ref p, .ref s, .int x3, .int ((I (s + 1) x3.toNatClampNeg) / 8), .int (((I (s + 1) x3.toNatClampNeg) - (I (s + 1) x3.toNatClampNeg) / 8 * 8) + 1), .null] [] (cd_mm L w I J)) else cd_go 78 60 [.ref 5, .ref p, .ref s, .int x3, .int ((I (s + 1) x3.toNatClampNeg) / 8), .int (((I (s + 1) x3.toNatClampNeg) - (I (s + 1) x3.toNatClampNeg) / 8 * 8) + (-1)), .null] [] (cd_mm L w I J)) else none) else if cd_in x3 8 = true then (if 0 < (I 18 x3.toNatClampNeg) then (cd_go 78 60 [.ref 5, .ref p, .ref s, .int x3, .int (((I (s + 1) x3.toNatClampNeg) / 8) + 1), .int ((I (s + 1) x3.toNatClampNeg) - (I (s + 1) x3.toNatClampNeg) / 8 * 8), .null] [] (cd_mm L w I J)) else cd_go 78 60 [.ref 5, .ref p, .ref s, .int x3, .int (((I (s + 1) x3.toNatClampNeg) / 8) + (-1)), .int ((I (s + 1) x3.toNatClampNeg) - (I (s + 1) x3.toNatClampNeg) / 8 * 8), .null] [] (cd_mm L w I J)) else none) else none) else none) else none) else if cd_in x3 8 = true then (if cd_in x3 8 = true then (if (if 0 ≤ (I 18 x3.toNatClampNeg) then (I 18 x3.toNatClampNeg) else 0 - (I 18 x3.toNatClampNeg)) < (if 0 ≤ (I 19 x3.toNatClampNeg) then (I 19 x3.toNatClampNeg) else 0 - (I 19 x3.toNatClampNeg)) then (if cd_in x3 8 = true then (if 0 < (I 19 x3.toNatClampNeg) then (cd_go 78 60 [.ref 5, .ref p, .ref s, .int x3, .int ((I (s + 1) x3.toNatClampNeg) / 8), .int (((I (s + 1) x3.toNatClampNeg) - (I (s + 1) x3.toNatClampNeg) / 8 * 8) + 1), .null] [] (cd_mm L w I J)) else cd_go 78 60 [.ref 5, .ref p, .ref s, .int x3, .int ((I (s + 1) x3.toNatClampNeg) / 8), .int (((I (s + 1) x3.toNatClampNeg) - (I (s + 1) x3.toNatClampNeg) / 8 * 8) + (-1)), .null] [] (cd_mm L w I J)) else none) else if cd_in x3 8 = true then (if 0 < (I 18 x3.toNatClampNeg) then (cd_go 78 60 [.ref 5, .ref p, .ref s, .int x3, .int (((I (s + 1) x3.toNatClampNeg) / 8) + 1), .int ((I (s + 1) x3.toNatClampNeg) - (I (s + 1) x3.toNatClampNeg) / 8 * 8), .null] [] (cd_mm L w I J)) else cd_go 78 60 [.ref 5, .ref p, .ref s, .int x3, .int (((I (s + 1) x3.toNatClampNeg) / 8) + (-1)), .int ((I (s + 1) x3.toNatClampNeg) - (I (s + 1) x3.toNatClampNeg) / 8 * 8), .null] [] (cd_mm L w I J)) else none) else none) else none) else none) else none) else none) = some r) : cd_go 78 0 [.ref 5, .ref p, .ref s, .int x3, .null, .null, .null] [] (cd_mm L w I J) = some r := by
  refine cd_q78_0 ?_
  simp only [cd_zwI, cd_zwL, cd_zI, cd_zJ, cd_zcp, true_and, if_true, cd_zk_s0_22_45 hs, cd_zR_s0_22_45_0 hs, cd_zk_s1_22_45 hs, cd_zn_s1_22_45 hs, cd_zk_5, cd_zR_5_1, cd_zk_18, cd_zn_18, cd_zR_5_2, cd_zk_19, cd_zn_19]
  exact h
set_option maxRecDepth 1000000 in
set_option maxHeartbeats 8000000 in
theorem cd_s78_60 {x3 : Int32} {x4 : Int32} {x5 : Int32} {p : Nat} (hp : p = 66 ∨ p = 83) {s : Nat} (hs : s = 22 ∨ s = 45) {L : Nat} {w : Bool} {I : Nat → Nat → Int32} {J : Nat → Nat → Int64} {r : cd_Ret} (h : (if x4 < 0 then (some (some (.int (-1)), (cd_mm L w I J))) else if x4 < 8 then (if x5 < 0 then (some (some (.int (-1)), (cd_mm L w I J))) else if x5 < 8 then ((cd_cl (cd_c 24 [.ref s, .int (I p 0)] (cd_mm L w I J))).bind fun q => cd_go 78 82 [.ref 5, .ref p, .ref s, .int x3, .int x4, .int x5, .int ((x4 * 8) + x5)] [.long q.1] q.2) else some (some (.int (-1)), (cd_mm L w I J))) else some (some (.int (-1)), (cd_mm L w I J))) = some r) : cd_go 78 60 [.ref 5, .ref p, .ref s, .int x3, .int x4, .int x5, .null] [] (cd_mm L w I J) = some r := by
  refine cd_q78_60 ?_
  simp only [cd_zwI, cd_zwL, cd_zI, cd_zJ, cd_zcp, true_and, if_true, cd_zk_p0_66_83 hp, cd_zk_s0_22_45 hs]
  exact h
set_option maxRecDepth 1000000 in
set_option maxHeartbeats 8000000 in
theorem cd_s78_82 {x3 : Int32} {x4 : Int32} {x5 : Int32} {x6 : Int32} {t0 : Int64} {p : Nat} (hp : p = 66 ∨ p = 83) {s : Nat} (hs : s = 22 ∨ s = 45) {L : Nat} {w : Bool} {I : Nat → Nat → Int32} {J : Nat → Nat → Int64} {r : cd_Ret} (h : (if (lg_cmp (((t0.toUInt64 >>> (x6.toInt64.toUInt64 &&& Int64.toUInt64 63)).toInt64) &&& 1) 0) = 0 then (some (some (.int x6), (cd_mm L w I J))) else some (some (.int (-1)), (cd_mm L w I J))) = some r) : cd_go 78 82 [.ref 5, .ref p, .ref s, .int x3, .int x4, .int x5, .int x6] [.long t0] (cd_mm L w I J) = some r := cd_q78_82 h
set_option maxRecDepth 1000000 in
set_option maxHeartbeats 8000000 in
theorem cd_s79_0 {x3 : Int32} {x4 : Int32} {p : Nat} (hp : p = 66 ∨ p = 83) {s : Nat} (hs : s = 22 ∨ s = 45) {L : Nat} {w : Bool} {I : Nat → Nat → Int32} {J : Nat → Nat → Int64} {r : cd_Ret} (h : ((cd_ci (cd_c 58 [.ref 6, .ref p, .ref s] (cd_mm L w I J))).bind fun q => cd_go 79 5 [.ref 5, .ref p, .ref s, .int x3, .int x4, .null, .null, .null] [.int q.1] q.2) = some r) : cd_go 79 0 [.ref 5, .ref p, .ref s, .int x3, .int x4, .null, .null, .null] [] (cd_mm L w I J) = some r := by
  refine cd_q79_0 ?_
  simp only [cd_zwI, cd_zwL, cd_zI, cd_zJ, cd_zcp, true_and, if_true, cd_zk_5, cd_zR_5_0, cd_zk_6]
  exact h
set_option maxRecDepth 1000000 in
set_option maxHeartbeats 8000000 in
theorem cd_s79_5 {x3 : Int32} {x4 : Int32} {s0 : Int32} {p : Nat} (hp : p = 66 ∨ p = 83) {s : Nat} (hs : s = 22 ∨ s = 45) {L : Nat} {w : Bool} {I : Nat → Nat → Int32} {J : Nat → Nat → Int64} {r : cd_Ret} (h : (cd_go 79 8 [.ref 5, .ref p, .ref s, .int x3, .int x4, .int s0, .int 0, .null] [] (cd_mm L w I J)) = some r) : cd_go 79 5 [.ref 5, .ref p, .ref s, .int x3, .int x4, .null, .null, .null] [.int s0] (cd_mm L w I J) = some r := cd_q79_5 h
set_option maxRecDepth 1000000 in
set_option maxHeartbeats 8000000 in
theorem cd_s79_8 {x3 : Int32} {x4 : Int32} {x5 : Int32} {x6 : Int32} {w7 : Value} {p : Nat} (hp : p = 66 ∨ p = 83) {s : Nat} (hs : s = 22 ∨ s = 45) {L : Nat} {w : Bool} {I : Nat → Nat → Int32} {J : Nat → Nat → Int64} {r : cd_Ret} (h : (if x6 < (I p 2) then (if cd_in x6 12 = true then (if (I (p + 12) x6.toNatClampNeg) = x3 then ((cd_ci (cd_c 59 [.ref s, .int x6] (cd_mm L w I J))).bind fun q => cd_go 79 25 [.ref 5, .ref p, .ref s, .int x3, .int x4, .int x5, .int x6, .int x4] [.int q.1] q.2) else (cd_ci (cd_c 59 [.ref s, .int x6] (cd_mm L w I J))).bind fun q => cd_go 79 25 [.ref 5, .ref p, .ref s, .int x3, .int x4, .int x5, .int x6, .int 0] [.int q.1] q.2) else none) else (cd_cv (cd_c 60 [.ref 5, .ref p, .ref s, .int x5] (cd_mm L w I J))).bind fun m => cd_go 79 47 [.ref 5, .ref p, .ref s, .int x3, .int x4, .int x5, .int x6, w7] [] m) = some r) : cd_go 79 8 [.ref 5, .ref p, .ref s, .int x3, .int x4, .int x5, .int x6, w7] [] (cd_mm L w I J) = some r := by
  refine cd_q79_8 ?_
  simp only [cd_zwI, cd_zwL, cd_zI, cd_zJ, cd_zcp, true_and, if_true, cd_zk_p0_66_83 hp, cd_zR_p0_66_83_15 hp, cd_zk_p12_66_83 hp, cd_zn_p12_66_83 hp, cd_zk_s0_22_45 hs, cd_zk_5]
  exact h
set_option maxRecDepth 1000000 in
set_option maxHeartbeats 8000000 in
theorem cd_s79_25 {x3 : Int32} {x4 : Int32} {x5 : Int32} {x6 : Int32} {x7 : Int32} {s0 : Int32} {p : Nat} (hp : p = 66 ∨ p = 83) {s : Nat} (hs : s = 22 ∨ s = 45) {L : Nat} {w : Bool} {I : Nat → Nat → Int32} {J : Nat → Nat → Int64} {r : cd_Ret} (h : (if s0 = 0 then (cd_go 79 8 [.ref 5, .ref p, .ref s, .int x3, .int x4, .int x5, .int (x6 + 1), .int x7] [] (cd_mm L w I J)) else (cd_ci (cd_c 75 [.ref 5, .ref p, .ref s, .int x5, .int x6, .int x7] (cd_mm L w I J))).bind fun q => cd_go 79 33 [.ref 5, .ref p, .ref s, .int x3, .int x4, .int x5, .int x6, .int x7] [.int q.1] q.2) = some r) : cd_go 79 25 [.ref 5, .ref p, .ref s, .int x3, .int x4, .int x5, .int x6, .int x7] [.int s0] (cd_mm L w I J) = some r := by
  refine cd_q79_25 ?_
  simp only [cd_zwI, cd_zwL, cd_zI, cd_zJ, cd_zcp, true_and, if_true, cd_zk_5]
  exact h
set_option maxRecDepth 1000000 in
set_option maxHeartbeats 8000000 in
theorem cd_s79_33 {x3 : Int32} {x4 : Int32} {x5 : Int32} {x6 : Int32} {x7 : Int32} {s0 : Int32} {p : Nat} (hp : p = 66 ∨ p = 83) {s : Nat} (hs : s = 22 ∨ s = 45) {L : Nat} {w : Bool} {I : Nat → Nat → Int32} {J : Nat → Nat → Int64} {r : cd_Ret} (h : (if s0 = 0 then (cd_go 79 8 [.ref 5, .ref p, .ref s, .int x3, .int x4, .int x5, .int (x6 + 1), .int x7] [] (cd_mm L w I J)) else (cd_ci (cd_c 77 [.ref 5, .int 0, .int x6, .int (-1)] (cd_mm L w I J))).bind fun q => cd_go 79 39 [.ref 5, .ref p, .ref s, .int x3, .int x4, .int x5, .int x6, .int x7] [.int q.1] q.2) = some r) : cd_go 79 33 [.ref 5, .ref p, .ref s, .int x3, .int x4, .int x5, .int x6, .int x7] [.int s0] (cd_mm L w I J) = some r := by
  refine cd_q79_33 ?_
  simp only [cd_zwI, cd_zwL, cd_zI, cd_zJ, cd_zcp, true_and, if_true, cd_zk_5]
  exact h
set_option maxRecDepth 1000000 in
set_option maxHeartbeats 8000000 in
theorem cd_s79_39 {x3 : Int32} {x4 : Int32} {x5 : Int32} {x6 : Int32} {x7 : Int32} {s0 : Int32} {p : Nat} (hp : p = 66 ∨ p = 83) {s : Nat} (hs : s = 22 ∨ s = 45) {L : Nat} {w : Bool} {I : Nat → Nat → Int32} {J : Nat → Nat → Int64} {r : cd_Ret} (h : (if s0 &&& 1 = s0 then some (some (.int s0), (cd_mm L w I J)) else none) = some r) : cd_go 79 39 [.ref 5, .ref p, .ref s, .int x3, .int x4, .int x5, .int x6, .int x7] [.int s0] (cd_mm L w I J) = some r := cd_q79_39 h
set_option maxRecDepth 1000000 in
set_option maxHeartbeats 8000000 in
theorem cd_s79_47 {x3 : Int32} {x4 : Int32} {x5 : Int32} {x6 : Int32} {w7 : Value} {p : Nat} (hp : p = 66 ∨ p = 83) {s : Nat} (hs : s = 22 ∨ s = 45) {L : Nat} {w : Bool} {I : Nat → Nat → Int32} {J : Nat → Nat → Int64} {r : cd_Ret} (h : (cd_go 79 49 [.ref 5, .ref p, .ref s, .int x3, .int x4, .int x5, .int 0, w7] [] (cd_mm L w I J)) = some r) : cd_go 79 47 [.ref 5, .ref p, .ref s, .int x3, .int x4, .int x5, .int x6, w7] [] (cd_mm L w I J) = some r := cd_q79_47 h
set_option maxRecDepth 1000000 in
set_option maxHeartbeats 8000000 in
theorem cd_s79_49 {x3 : Int32} {x4 : Int32} {x5 : Int32} {x6 : Int32} {w7 : Value} {p : Nat} (hp : p = 66 ∨ p = 83) {s : Nat} (hs : s = 22 ∨ s = 45) {L : Nat} {w : Bool} {I : Nat → Nat → Int32} {J : Nat → Nat → Int64} {r : cd_Ret} (h : (if x6 < (I p 0) then ((cd_ci (cd_c 62 [.ref 5, .int x6] (cd_mm L w I J))).bind fun q => cd_go 79 56 [.ref 5, .ref p, .ref s, .int x3, .int x4, .int x5, .int x6, w7] [.int q.1] q.2) else cd_go 79 94 [.ref 5, .ref p, .ref s, .int x3, .int x4, .int x5, .int 0, w7] [] (cd_mm L w I J)) = some r) : cd_go 79 49 [.ref 5, .ref p, .ref s, .int x3, .int x4, .int x5, .int x6, w7] [] (cd_mm L w I J) = some r := by
  refine cd_q79_49 ?_
  simp only [cd_zwI, cd_zwL, cd_zI, cd_zJ, cd_zcp, true_and, if_true, cd_zk_p0_66_83 hp, cd_zk_5]
  exact h
set_option maxRecDepth 1000000 in
set_option maxHeartbeats 8000000 in
theorem cd_s79_56 {x3 : Int32} {x4 : Int32} {x5 : Int32} {x6 : Int32} {w7 : Value} {s0 : Int32} {p : Nat} (hp : p = 66 ∨ p = 83) {s : Nat} (hs : s = 22 ∨ s = 45) {L : Nat} {w : Bool} {I : Nat → Nat → Int32} {J : Nat → Nat → Int64} {r : cd_Ret} (h : (if x6 = x3 then ((cd_ci (cd_c 61 [.ref s, .int x6] (cd_mm L w I J))).bind fun q => cd_go 79 67 [.ref 5, .ref p, .ref s, .int x3, .int x4, .int x5, .int x6, .int (s0 + x4)] [.int q.1] q.2) else (cd_ci (cd_c 61 [.ref s, .int x6] (cd_mm L w I J))).bind fun q => cd_go 79 67 [.ref 5, .ref p, .ref s, .int x3, .int x4, .int x5, .int x6, .int (s0 + 0)] [.int q.1] q.2) = some r) : cd_go 79 56 [.ref 5, .ref p, .ref s, .int x3, .int x4, .int x5, .int x6, w7] [.int s0] (cd_mm L w I J) = some r := by
  refine cd_q79_56 ?_
  simp only [cd_zwI, cd_zwL, cd_zI, cd_zJ, cd_zcp, true_and, if_true, cd_zk_s0_22_45 hs]
  exact h
set_option maxRecDepth 1000000 in
set_option maxHeartbeats 8000000 in
theorem cd_s79_67 {x3 : Int32} {x4 : Int32} {x5 : Int32} {x6 : Int32} {x7 : Int32} {s0 : Int32} {p : Nat} (hp : p = 66 ∨ p = 83) {s : Nat} (hs : s = 22 ∨ s = 45) {L : Nat} {w : Bool} {I : Nat → Nat → Int32} {J : Nat → Nat → Int64} {r : cd_Ret} (h : (if s0 = 0 then (if cd_in x6 8 = true then (if cd_in x6 8 = true then (if cd_in x6 8 = true then (if ((I (p + 2) x6.toNatClampNeg) * (I (p + 4) x6.toNatClampNeg)) < (x7 * (I (p + 1) x6.toNatClampNeg)) then ((cd_ci (cd_c 77 [.ref 5, .int 1, .int x6, .int (-1)] (cd_mm L w I J))).bind fun q => cd_go 79 89 [.ref 5, .ref p, .ref s, .int x3, .int x4, .int x5, .int x6, .int x7] [.int q.1] q.2) else cd_go 79 49 [.ref 5, .ref p, .ref s, .int x3, .int x4, .int x5, .int (x6 + 1), .int x7] [] (cd_mm L w I J)) else none) else none) else none) else cd_go 79 49 [.ref 5, .ref p, .ref s, .int x3, .int x4, .int x5, .int (x6 + 1), .int x7] [] (cd_mm L w I J)) = some r) : cd_go 79 67 [.ref 5, .ref p, .ref s, .int x3, .int x4, .int x5, .int x6, .int x7] [.int s0] (cd_mm L w I J) = some r := by
  refine cd_q79_67 ?_
  simp only [cd_zwI, cd_zwL, cd_zI, cd_zJ, cd_zcp, true_and, if_true, cd_zk_p0_66_83 hp, cd_zR_p0_66_83_4 hp, cd_zk_p1_66_83 hp, cd_zn_p1_66_83 hp, cd_zR_p0_66_83_5 hp, cd_zk_p2_66_83 hp, cd_zn_p2_66_83 hp, cd_zR_p0_66_83_7 hp, cd_zk_p4_66_83 hp, cd_zn_p4_66_83 hp, cd_zk_5]
  exact h
set_option maxRecDepth 1000000 in
set_option maxHeartbeats 8000000 in
theorem cd_s79_89 {x3 : Int32} {x4 : Int32} {x5 : Int32} {x6 : Int32} {x7 : Int32} {s0 : Int32} {p : Nat} (hp : p = 66 ∨ p = 83) {s : Nat} (hs : s = 22 ∨ s = 45) {L : Nat} {w : Bool} {I : Nat → Nat → Int32} {J : Nat → Nat → Int64} {r : cd_Ret} (h : (if s0 &&& 1 = s0 then some (some (.int s0), (cd_mm L w I J)) else none) = some r) : cd_go 79 89 [.ref 5, .ref p, .ref s, .int x3, .int x4, .int x5, .int x6, .int x7] [.int s0] (cd_mm L w I J) = some r := cd_q79_89 h
set_option maxRecDepth 1000000 in
set_option maxHeartbeats 8000000 in
theorem cd_s79_94 {x3 : Int32} {x4 : Int32} {x5 : Int32} {x6 : Int32} {w7 : Value} {p : Nat} (hp : p = 66 ∨ p = 83) {s : Nat} (hs : s = 22 ∨ s = 45) {L : Nat} {w : Bool} {I : Nat → Nat → Int32} {J : Nat → Nat → Int64} {r : cd_Ret} (h : (if x6 < (I p 0) then ((cd_ci (cd_c 62 [.ref 5, .int x6] (cd_mm L w I J))).bind fun q => cd_go 79 101 [.ref 5, .ref p, .ref s, .int x3, .int x4, .int x5, .int x6, w7] [.int q.1] q.2) else some (some (.int 1), (cd_mm L w I J))) = some r) : cd_go 79 94 [.ref 5, .ref p, .ref s, .int x3, .int x4, .int x5, .int x6, w7] [] (cd_mm L w I J) = some r := by
  refine cd_q79_94 ?_
  simp only [cd_zwI, cd_zwL, cd_zI, cd_zJ, cd_zcp, true_and, if_true, cd_zk_p0_66_83 hp, cd_zk_5]
  exact h
set_option maxRecDepth 1000000 in
set_option maxHeartbeats 8000000 in
theorem cd_s79_101 {x3 : Int32} {x4 : Int32} {x5 : Int32} {x6 : Int32} {w7 : Value} {s0 : Int32} {p : Nat} (hp : p = 66 ∨ p = 83) {s : Nat} (hs : s = 22 ∨ s = 45) {L : Nat} {w : Bool} {I : Nat → Nat → Int32} {J : Nat → Nat → Int64} {r : cd_Ret} (h : (if x6 = x3 then (if cd_in x6 8 = true then (if cd_in x6 8 = true then (if (((I 20 x6.toNatClampNeg) * (I (p + 3) x6.toNatClampNeg)) / 10) < (s0 + x4) then ((cd_ci (cd_c 78 [.ref 5, .ref p, .ref s, .int x6] (cd_mm L w I J))).bind fun q => cd_go 79 127 [.ref 5, .ref p, .ref s, .int x3, .int x4, .int x5, .int x6, .int (s0 + x4)] [.int q.1] q.2) else cd_go 79 94 [.ref 5, .ref p, .ref s, .int x3, .int x4, .int x5, .int (x6 + 1), .int (s0 + x4)] [] (cd_mm L w I J)) else none) else none) else if cd_in x6 8 = true then (if cd_in x6 8 = true then (if (((I 20 x6.toNatClampNeg) * (I (p + 3) x6.toNatClampNeg)) / 10) < (s0 + 0) then ((cd_ci (cd_c 78 [.ref 5, .ref p, .ref s, .int x6] (cd_mm L w I J))).bind fun q => cd_go 79 127 [.ref 5, .ref p, .ref s, .int x3, .int x4, .int x5, .int x6, .int (s0 + 0)] [.int q.1] q.2) else cd_go 79 94 [.ref 5, .ref p, .ref s, .int x3, .int x4, .int x5, .int (x6 + 1), .int (s0 + 0)] [] (cd_mm L w I J)) else none) else none) = some r) : cd_go 79 101 [.ref 5, .ref p, .ref s, .int x3, .int x4, .int x5, .int x6, w7] [.int s0] (cd_mm L w I J) = some r := by
  refine cd_q79_101 ?_
  simp only [cd_zwI, cd_zwL, cd_zI, cd_zJ, cd_zcp, true_and, if_true, cd_zk_5, cd_zR_5_3, cd_zk_20, cd_zn_20, cd_zk_p0_66_83 hp, cd_zR_p0_66_83_6 hp, cd_zk_p3_66_83 hp, cd_zn_p3_66_83 hp]
  exact h
set_option maxRecDepth 1000000 in
set_option maxHeartbeats 8000000 in
theorem cd_s79_127 {x3 : Int32} {x4 : Int32} {x5 : Int32} {x6 : Int32} {x7 : Int32} {s0 : Int32} {p : Nat} (hp : p = 66 ∨ p = 83) {s : Nat} (hs : s = 22 ∨ s = 45) {L : Nat} {w : Bool} {I : Nat → Nat → Int32} {J : Nat → Nat → Int64} {r : cd_Ret} (h : (if s0 = (-1) then (cd_go 79 94 [.ref 5, .ref p, .ref s, .int x3, .int x4, .int x5, .int (x6 + 1), .int x7] [] (cd_mm L w I J)) else (cd_ci (cd_c 78 [.ref 5, .ref p, .ref s, .int x6] (cd_mm L w I J))).bind fun q => cd_go 79 137 [.ref 5, .ref p, .ref s, .int x3, .int x4, .int x5, .int x6, .int x7] [.int q.1, .int x6, .int 2, .ref 5] q.2) = some r) : cd_go 79 127 [.ref 5, .ref p, .ref s, .int x3, .int x4, .int x5, .int x6, .int x7] [.int s0] (cd_mm L w I J) = some r := by
  refine cd_q79_127 ?_
  simp only [cd_zwI, cd_zwL, cd_zI, cd_zJ, cd_zcp, true_and, if_true, cd_zk_5]
  exact h
set_option maxRecDepth 1000000 in
set_option maxHeartbeats 8000000 in
theorem cd_s79_137 {x3 : Int32} {x4 : Int32} {x5 : Int32} {x6 : Int32} {x7 : Int32} {s1 : Int32} {s2 : Int32} {s3 : Int32} {p : Nat} (hp : p = 66 ∨ p = 83) {s : Nat} (hs : s = 22 ∨ s = 45) {L : Nat} {w : Bool} {I : Nat → Nat → Int32} {J : Nat → Nat → Int64} {r : cd_Ret} (h : ((cd_ci (cd_c 77 [.ref 5, .int s1, .int s2, .int s3] (cd_mm L w I J))).bind fun q => cd_go 79 138 [.ref 5, .ref p, .ref s, .int x3, .int x4, .int x5, .int x6, .int x7] [.int q.1] q.2) = some r) : cd_go 79 137 [.ref 5, .ref p, .ref s, .int x3, .int x4, .int x5, .int x6, .int x7] [.int s3, .int s2, .int s1, .ref 5] (cd_mm L w I J) = some r := by
  refine cd_q79_137 ?_
  simp only [cd_zwI, cd_zwL, cd_zI, cd_zJ, cd_zcp, true_and, if_true, cd_zk_5]
  exact h
set_option maxRecDepth 1000000 in
set_option maxHeartbeats 8000000 in
theorem cd_s79_138 {x3 : Int32} {x4 : Int32} {x5 : Int32} {x6 : Int32} {x7 : Int32} {s0 : Int32} {p : Nat} (hp : p = 66 ∨ p = 83) {s : Nat} (hs : s = 22 ∨ s = 45) {L : Nat} {w : Bool} {I : Nat → Nat → Int32} {J : Nat → Nat → Int64} {r : cd_Ret} (h : (if s0 &&& 1 = s0 then some (some (.int s0), (cd_mm L w I J)) else none) = some r) : cd_go 79 138 [.ref 5, .ref p, .ref s, .int x3, .int x4, .int x5, .int x6, .int x7] [.int s0] (cd_mm L w I J) = some r := cd_q79_138 h
set_option maxRecDepth 1000000 in
set_option maxHeartbeats 8000000 in
theorem cd_s80_0 {p : Nat} (hp : p = 66 ∨ p = 83) {s : Nat} (hs : s = 22 ∨ s = 45) {L : Nat} {w : Bool} {I : Nat → Nat → Int32} {J : Nat → Nat → Int64} {r : cd_Ret} (h : (if (I 5 4) = 0 then (some (none, (cd_mm L w (cd_up I s 2 ((I s 2) &&& (((1 : Int32) <<< ((I 5 5) &&& 31)) ^^^ (-1)))) J))) else if (I 5 4) = 1 then (some (none, (cd_mm L w (cd_up I s 1 ((I s 1) ||| ((1 : Int32) <<< ((I 5 5) &&& 31)))) J))) else if cd_in (I 5 5) 8 = true then (cd_go 80 38 [.ref 5, .ref p, .ref s, .int 0] [] (cd_mm L w (cd_up I (s + 1) (I 5 5).toNatClampNeg (I 5 6)) J)) else none) = some r) : cd_go 80 0 [.ref 5, .ref p, .ref s, .null] [] (cd_mm L w I J) = some r := by
  refine cd_q80_0 ?_
  simp only [cd_zwI, cd_zwL, cd_zI, cd_zJ, cd_zcp, true_and, if_true, cd_zk_5, cd_zk_s0_22_45 hs, cd_zR_s0_22_45_0 hs, cd_zk_s1_22_45 hs, cd_zn_s1_22_45 hs]
  exact h
set_option maxRecDepth 1000000 in
set_option maxHeartbeats 8000000 in
theorem cd_s80_38 {x3 : Int32} {p : Nat} (hp : p = 66 ∨ p = 83) {s : Nat} (hs : s = 22 ∨ s = 45) {L : Nat} {w : Bool} {I : Nat → Nat → Int32} {J : Nat → Nat → Int64} {r : cd_Ret} (h : (if x3 < (I p 2) then (if cd_in x3 12 = true then (if (I (p + 12) x3.toNatClampNeg) = (I 5 5) then ((cd_ci (cd_c 30 [.ref p, .ref s, .int x3] (cd_mm L w I J))).bind fun q => cd_go 80 53 [.ref 5, .ref p, .ref s, .int x3] [.int q.1] q.2) else cd_go 80 38 [.ref 5, .ref p, .ref s, .int (x3 + 1)] [] (cd_mm L w I J)) else none) else some (none, (cd_mm L w I J))) = some r) : cd_go 80 38 [.ref 5, .ref p, .ref s, .int x3] [] (cd_mm L w I J) = some r := by
  refine cd_q80_38 ?_
  simp only [cd_zwI, cd_zwL, cd_zI, cd_zJ, cd_zcp, true_and, if_true, cd_zk_p0_66_83 hp, cd_zR_p0_66_83_15 hp, cd_zk_p12_66_83 hp, cd_zn_p12_66_83 hp, cd_zk_5]
  exact h
set_option maxRecDepth 1000000 in
set_option maxHeartbeats 8000000 in
theorem cd_s80_53 {x3 : Int32} {s0 : Int32} {p : Nat} (hp : p = 66 ∨ p = 83) {s : Nat} (hs : s = 22 ∨ s = 45) {L : Nat} {w : Bool} {I : Nat → Nat → Int32} {J : Nat → Nat → Int64} {r : cd_Ret} (h : (if s0 = 0 then (cd_go 80 38 [.ref 5, .ref p, .ref s, .int (x3 + 1)] [] (cd_mm L w (cd_up I s 2 ((I s 2) &&& (((1 : Int32) <<< (x3 &&& 31)) ^^^ (-1)))) J)) else cd_go 80 38 [.ref 5, .ref p, .ref s, .int (x3 + 1)] [] (cd_mm L w I J)) = some r) : cd_go 80 53 [.ref 5, .ref p, .ref s, .int x3] [.int s0] (cd_mm L w I J) = some r := by
  refine cd_q80_53 ?_
  simp only [cd_zwI, cd_zwL, cd_zI, cd_zJ, cd_zcp, true_and, if_true, cd_zk_s0_22_45 hs]
  exact h
set_option maxRecDepth 1000000 in
set_option maxHeartbeats 8000000 in
theorem cd_s81_0 {x1 : Int32} {x2 : Int32} {l : Nat} (hl : l = 26 ∨ l = 42) {L : Nat} {w : Bool} {I : Nat → Nat → Int32} {J : Nat → Nat → Int64} {r : cd_Ret} (h : (if (I l 2) < 60 then (if cd_in (I l 2) 60 = true then (if cd_in ((cd_up I (l + 1) (I l 2).toNatClampNeg x1) l 2) 60 = true then (some (none, (cd_mm L w (cd_up (cd_up (cd_up I (l + 1) (I l 2).toNatClampNeg x1) (l + 2) ((cd_up I (l + 1) (I l 2).toNatClampNeg x1) l 2).toNatClampNeg x2) l 2 (((cd_up (cd_up I (l + 1) (I l 2).toNatClampNeg x1) (l + 2) ((cd_up I (l + 1) (I l 2).toNatClampNeg x1) l 2).toNatClampNeg x2) l 2) + 1)) J))) else none) else none) else some (none, (cd_mm L w I J))) = some r) : cd_go 81 0 [.ref l, .int x1, .int x2] [] (cd_mm L w I J) = some r := by
  refine cd_q81_0 ?_
  simp only [cd_zwI, cd_zwL, cd_zI, cd_zJ, cd_zcp, true_and, if_true, cd_zk_l0_26_42 hl, cd_zR_l0_26_42_0 hl, cd_zk_l1_26_42 hl, cd_zn_l1_26_42 hl, cd_zR_l0_26_42_1 hl, cd_zk_l2_26_42 hl, cd_zn_l2_26_42 hl]
  exact h
set_option maxRecDepth 1000000 in
set_option maxHeartbeats 8000000 in
theorem cd_s82_0 {x3 : Int32} {x4 : Int32} {p : Nat} (hp : p = 66 ∨ p = 83) {s : Nat} (hs : s = 22 ∨ s = 45) {l : Nat} (hl : l = 26 ∨ l = 42) {L : Nat} {w : Bool} {I : Nat → Nat → Int32} {J : Nat → Nat → Int64} {r : cd_Ret} (h : (cd_go 82 5 [.ref 5, .ref p, .ref s, .int x3, .int x4, .ref l, .int 0] [] (cd_mm L w (cd_up I l 2 0) J)) = some r) : cd_go 82 0 [.ref 5, .ref p, .ref s, .int x3, .int x4, .ref l, .null] [] (cd_mm L w I J) = some r := by
  refine cd_q82_0 ?_
  simp only [cd_zwI, cd_zwL, cd_zI, cd_zJ, cd_zcp, true_and, if_true, cd_zk_l0_26_42 hl]
  exact h
set_option maxRecDepth 1000000 in
set_option maxHeartbeats 8000000 in
theorem cd_s82_5 {x3 : Int32} {x4 : Int32} {x6 : Int32} {p : Nat} (hp : p = 66 ∨ p = 83) {s : Nat} (hs : s = 22 ∨ s = 45) {l : Nat} (hl : l = 26 ∨ l = 42) {L : Nat} {w : Bool} {I : Nat → Nat → Int32} {J : Nat → Nat → Int64} {r : cd_Ret} (h : (if x6 < 60 then (if x6 = 0 then ((cd_ci (cd_c 79 [.ref 5, .ref p, .ref s, .int x3, .int x4] (cd_mm L w I J))).bind fun q => cd_go 82 18 [.ref 5, .ref p, .ref s, .int x3, .int x4, .ref l, .int x6] [.int q.1] q.2) else (cd_ci (cd_c 79 [.ref 5, .ref p, .ref s, .int (-1), .int x4] (cd_mm L w I J))).bind fun q => cd_go 82 18 [.ref 5, .ref p, .ref s, .int x3, .int x4, .ref l, .int x6] [.int q.1] q.2) else some (none, (cd_mm L w I J))) = some r) : cd_go 82 5 [.ref 5, .ref p, .ref s, .int x3, .int x4, .ref l, .int x6] [] (cd_mm L w I J) = some r := by
  refine cd_q82_5 ?_
  simp only [cd_zwI, cd_zwL, cd_zI, cd_zJ, cd_zcp, true_and, if_true, cd_zk_5]
  exact h
set_option maxRecDepth 1000000 in
set_option maxHeartbeats 8000000 in
theorem cd_s82_18 {x3 : Int32} {x4 : Int32} {x6 : Int32} {s0 : Int32} {p : Nat} (hp : p = 66 ∨ p = 83) {s : Nat} (hs : s = 22 ∨ s = 45) {l : Nat} (hl : l = 26 ∨ l = 42) {L : Nat} {w : Bool} {I : Nat → Nat → Int32} {J : Nat → Nat → Int64} {r : cd_Ret} (h : (if s0 = 0 then ((cd_cv (cd_c 80 [.ref 5, .ref p, .ref s] (cd_mm L w I J))).bind fun m => cd_go 82 24 [.ref 5, .ref p, .ref s, .int x3, .int x4, .ref l, .int x6] [] m) else some (none, (cd_mm L w I J))) = some r) : cd_go 82 18 [.ref 5, .ref p, .ref s, .int x3, .int x4, .ref l, .int x6] [.int s0] (cd_mm L w I J) = some r := by
  refine cd_q82_18 ?_
  simp only [cd_zwI, cd_zwL, cd_zI, cd_zJ, cd_zcp, true_and, if_true, cd_zk_5]
  exact h
set_option maxRecDepth 1000000 in
set_option maxHeartbeats 8000000 in
theorem cd_s82_24 {x3 : Int32} {x4 : Int32} {x6 : Int32} {p : Nat} (hp : p = 66 ∨ p = 83) {s : Nat} (hs : s = 22 ∨ s = 45) {l : Nat} (hl : l = 26 ∨ l = 42) {L : Nat} {w : Bool} {I : Nat → Nat → Int32} {J : Nat → Nat → Int64} {r : cd_Ret} (h : ((cd_cv (cd_c 81 [.ref l, .int (I 5 4), .int (I 5 5)] (cd_mm L w I J))).bind fun m => cd_go 82 30 [.ref 5, .ref p, .ref s, .int x3, .int x4, .ref l, .int x6] [] m) = some r) : cd_go 82 24 [.ref 5, .ref p, .ref s, .int x3, .int x4, .ref l, .int x6] [] (cd_mm L w I J) = some r := by
  refine cd_q82_24 ?_
  simp only [cd_zwI, cd_zwL, cd_zI, cd_zJ, cd_zcp, true_and, if_true, cd_zk_5, cd_zk_l0_26_42 hl]
  exact h
set_option maxRecDepth 1000000 in
set_option maxHeartbeats 8000000 in
theorem cd_s82_30 {x3 : Int32} {x4 : Int32} {x6 : Int32} {p : Nat} (hp : p = 66 ∨ p = 83) {s : Nat} (hs : s = 22 ∨ s = 45) {l : Nat} (hl : l = 26 ∨ l = 42) {L : Nat} {w : Bool} {I : Nat → Nat → Int32} {J : Nat → Nat → Int64} {r : cd_Ret} (h : (cd_go 82 5 [.ref 5, .ref p, .ref s, .int x3, .int x4, .ref l, .int (x6 + 1)] [] (cd_mm L w I J)) = some r) : cd_go 82 30 [.ref 5, .ref p, .ref s, .int x3, .int x4, .ref l, .int x6] [] (cd_mm L w I J) = some r := cd_q82_30 h
set_option maxRecDepth 1000000 in
set_option maxHeartbeats 8000000 in
theorem cd_s83_0 {x1 : Int32} {x2 : Int32} {L : Nat} {w : Bool} {I : Nat → Nat → Int32} {J : Nat → Nat → Int64} {r : cd_Ret} (h : (if x1 = (-1) then (cd_go 83 9 [.ref 2, .int x1, .int x2] [] (cd_mm L w I J)) else (cd_ci (cd_c 49 [.ref 2, .int x1] (cd_mm L w I J))).bind fun q => cd_go 83 6 [.ref 2, .int x1, .int x2] [.int q.1] q.2) = some r) : cd_go 83 0 [.ref 2, .int x1, .int x2] [] (cd_mm L w I J) = some r := by
  refine cd_q83_0 ?_
  simp only [cd_zwI, cd_zwL, cd_zI, cd_zJ, cd_zcp, true_and, if_true, cd_zk_2]
  exact h
set_option maxRecDepth 1000000 in
set_option maxHeartbeats 8000000 in
theorem cd_s83_6 {x1 : Int32} {x2 : Int32} {s0 : Int32} {L : Nat} {w : Bool} {I : Nat → Nat → Int32} {J : Nat → Nat → Int64} {r : cd_Ret} (h : (if s0 = 0 then (some (some (.int (-1001)), (cd_mm L w I J))) else cd_go 83 9 [.ref 2, .int x1, .int x2] [] (cd_mm L w I J)) = some r) : cd_go 83 6 [.ref 2, .int x1, .int x2] [.int s0] (cd_mm L w I J) = some r := cd_q83_6 h
set_option maxRecDepth 1000000 in
set_option maxHeartbeats 8000000 in
theorem cd_s83_9 {x1 : Int32} {x2 : Int32} {L : Nat} {w : Bool} {I : Nat → Nat → Int32} {J : Nat → Nat → Int64} {r : cd_Ret} (h : (if x1 = (-1) then (if x1 = (-1) then ((cd_cv (cd_c 82 [.ref 5, .ref (cd_ple w), .ref 45, .int x1, .int 0, .ref 42] (cd_mm L w I J))).bind fun m => cd_go 83 33 [.ref 2, .int x1, .int x2] [] m) else (cd_cv (cd_c 82 [.ref 5, .ref (cd_ple w), .ref 45, .int x1, .int x2, .ref 42] (cd_mm L w I J))).bind fun m => cd_go 83 33 [.ref 2, .int x1, .int x2] [] m) else (cd_ci (cd_c 74 [.int x2] (cd_mm L w I J))).bind fun q => cd_go 83 14 [.ref 2, .int x1, .int x2] [.int q.1] q.2) = some r) : cd_go 83 9 [.ref 2, .int x1, .int x2] [] (cd_mm L w I J) = some r := by
  refine cd_q83_9 ?_
  simp only [cd_zwI, cd_zwL, cd_zI, cd_zJ, cd_zcp, true_and, if_true, cd_zk_2, cd_zR_2_1, cd_zR_2_12, cd_zR_2_6, cd_zR_2_5, cd_zk_5]
  exact h
set_option maxRecDepth 1000000 in
set_option maxHeartbeats 8000000 in
theorem cd_s83_14 {x1 : Int32} {x2 : Int32} {s0 : Int32} {L : Nat} {w : Bool} {I : Nat → Nat → Int32} {J : Nat → Nat → Int64} {r : cd_Ret} (h : (if s0 = 0 then (some (some (.int (-1002)), (cd_mm L w I J))) else if x1 = (-1) then ((cd_cv (cd_c 82 [.ref 5, .ref (cd_ple w), .ref 45, .int x1, .int 0, .ref 42] (cd_mm L w I J))).bind fun m => cd_go 83 33 [.ref 2, .int x1, .int x2] [] m) else (cd_cv (cd_c 82 [.ref 5, .ref (cd_ple w), .ref 45, .int x1, .int x2, .ref 42] (cd_mm L w I J))).bind fun m => cd_go 83 33 [.ref 2, .int x1, .int x2] [] m) = some r) : cd_go 83 14 [.ref 2, .int x1, .int x2] [.int s0] (cd_mm L w I J) = some r := by
  refine cd_q83_14 ?_
  simp only [cd_zwI, cd_zwL, cd_zI, cd_zJ, cd_zcp, true_and, if_true, cd_zk_2, cd_zR_2_1, cd_zR_2_12, cd_zR_2_6, cd_zR_2_5, cd_zk_5]
  exact h
set_option maxRecDepth 1000000 in
set_option maxHeartbeats 8000000 in
theorem cd_s83_33 {x1 : Int32} {x2 : Int32} {L : Nat} {w : Bool} {I : Nat → Nat → Int32} {J : Nat → Nat → Int64} {r : cd_Ret} (h : (some (some (.int (I 42 2)), (cd_mm L w I J))) = some r) : cd_go 83 33 [.ref 2, .int x1, .int x2] [] (cd_mm L w I J) = some r := by
  refine cd_q83_33 ?_
  simp only [cd_zwI, cd_zwL, cd_zI, cd_zJ, cd_zcp, true_and, if_true, cd_zk_2, cd_zR_2_5, cd_zk_42]
  exact h
