theorem cd_bd0 : cd_body 0 = cd_b0 := rfl
set_option maxRecDepth 1000000 in
set_option maxHeartbeats 8000000 in
theorem cd_q0_0 {a0 : Nat} {M : cd_M} {r : cd_Ret} (h : (if a0 ≠ 0 then (if (500 : Int32) < 0 ∨ 65536 < (500 : Int32) ∨ ¬ M.1.length < 900 then none else if cd_k (cd_new M 20 500) a0 = 4 then (cd_go 0 6 [.ref a0] [] (cd_wR (cd_new M 20 500) a0 0 M.1.length)) else none) else none) = some r) : cd_go 0 0 [.ref a0] [] M = some r := cd_at (cuts := [6, 9, 12, 15, 18, 21, 24, 27, 30]) (n := 400) (cd_bd0) rfl h
set_option maxRecDepth 1000000 in
set_option maxHeartbeats 8000000 in
theorem cd_q0_6 {a0 : Nat} {M : cd_M} {r : cd_Ret} (h : (if cd_k M a0 = 4 then (cd_go 0 9 [.ref a0] [] (cd_wI M a0 1 0)) else none) = some r) : cd_go 0 6 [.ref a0] [] M = some r := cd_at (cuts := [6, 9, 12, 15, 18, 21, 24, 27, 30]) (n := 400) (cd_bd0) rfl h
set_option maxRecDepth 1000000 in
set_option maxHeartbeats 8000000 in
theorem cd_q0_9 {a0 : Nat} {M : cd_M} {r : cd_Ret} (h : (if cd_k M a0 = 4 then (cd_go 0 12 [.ref a0] [] (cd_wI M a0 2 0)) else none) = some r) : cd_go 0 9 [.ref a0] [] M = some r := cd_at (cuts := [6, 9, 12, 15, 18, 21, 24, 27, 30]) (n := 400) (cd_bd0) rfl h
set_option maxRecDepth 1000000 in
set_option maxHeartbeats 8000000 in
theorem cd_q0_12 {a0 : Nat} {M : cd_M} {r : cd_Ret} (h : (if cd_k M a0 = 4 then (cd_go 0 15 [.ref a0] [] (cd_wI M a0 3 0)) else none) = some r) : cd_go 0 12 [.ref a0] [] M = some r := cd_at (cuts := [6, 9, 12, 15, 18, 21, 24, 27, 30]) (n := 400) (cd_bd0) rfl h
set_option maxRecDepth 1000000 in
set_option maxHeartbeats 8000000 in
theorem cd_q0_15 {a0 : Nat} {M : cd_M} {r : cd_Ret} (h : (if cd_k M a0 = 4 then (cd_go 0 18 [.ref a0] [] (cd_wI M a0 4 0)) else none) = some r) : cd_go 0 15 [.ref a0] [] M = some r := cd_at (cuts := [6, 9, 12, 15, 18, 21, 24, 27, 30]) (n := 400) (cd_bd0) rfl h
set_option maxRecDepth 1000000 in
set_option maxHeartbeats 8000000 in
theorem cd_q0_18 {a0 : Nat} {M : cd_M} {r : cd_Ret} (h : (if cd_k M a0 = 4 then (cd_go 0 21 [.ref a0] [] (cd_wI M a0 5 0)) else none) = some r) : cd_go 0 18 [.ref a0] [] M = some r := cd_at (cuts := [6, 9, 12, 15, 18, 21, 24, 27, 30]) (n := 400) (cd_bd0) rfl h
set_option maxRecDepth 1000000 in
set_option maxHeartbeats 8000000 in
theorem cd_q0_21 {a0 : Nat} {M : cd_M} {r : cd_Ret} (h : (if cd_k M a0 = 4 then (cd_go 0 24 [.ref a0] [] (cd_wI M a0 6 0)) else none) = some r) : cd_go 0 21 [.ref a0] [] M = some r := cd_at (cuts := [6, 9, 12, 15, 18, 21, 24, 27, 30]) (n := 400) (cd_bd0) rfl h
set_option maxRecDepth 1000000 in
set_option maxHeartbeats 8000000 in
theorem cd_q0_24 {a0 : Nat} {M : cd_M} {r : cd_Ret} (h : (if cd_k M a0 = 4 then (cd_go 0 27 [.ref a0] [] (cd_wI M a0 7 0)) else none) = some r) : cd_go 0 24 [.ref a0] [] M = some r := cd_at (cuts := [6, 9, 12, 15, 18, 21, 24, 27, 30]) (n := 400) (cd_bd0) rfl h
set_option maxRecDepth 1000000 in
set_option maxHeartbeats 8000000 in
theorem cd_q0_27 {a0 : Nat} {M : cd_M} {r : cd_Ret} (h : (if cd_k M a0 = 4 then (cd_go 0 30 [.ref a0] [] (cd_wI M a0 8 (-1))) else none) = some r) : cd_go 0 27 [.ref a0] [] M = some r := cd_at (cuts := [6, 9, 12, 15, 18, 21, 24, 27, 30]) (n := 400) (cd_bd0) rfl h
set_option maxRecDepth 1000000 in
set_option maxHeartbeats 8000000 in
theorem cd_q0_30 {a0 : Nat} {M : cd_M} {r : cd_Ret} (h : (some (none, M)) = some r) : cd_go 0 30 [.ref a0] [] M = some r := cd_at (cuts := [6, 9, 12, 15, 18, 21, 24, 27, 30]) (n := 400) (cd_bd0) rfl h
theorem cd_bd1 : cd_body 1 = cd_b1 := rfl
set_option maxRecDepth 1000000 in
set_option maxHeartbeats 8000000 in
theorem cd_q1_0 {a0 : Nat} {M : cd_M} {r : cd_Ret} (h : (if a0 ≠ 0 then (if (192 : Int32) < 0 ∨ 65536 < (192 : Int32) ∨ ¬ M.1.length < 900 then none else if cd_k (cd_new M 20 192) a0 = 1 then (cd_go 1 6 [.ref a0] [] (cd_wR (cd_new M 20 192) a0 0 M.1.length)) else none) else none) = some r) : cd_go 1 0 [.ref a0] [] M = some r := cd_at (cuts := [6, 10, 14]) (n := 400) (cd_bd1) rfl h
set_option maxRecDepth 1000000 in
set_option maxHeartbeats 8000000 in
theorem cd_q1_6 {a0 : Nat} {M : cd_M} {r : cd_Ret} (h : (if (192 : Int32) < 0 ∨ 65536 < (192 : Int32) ∨ ¬ M.1.length < 900 then none else if cd_k (cd_new M 20 192) a0 = 1 then (cd_go 1 10 [.ref a0] [] (cd_wR (cd_new M 20 192) a0 1 M.1.length)) else none) = some r) : cd_go 1 6 [.ref a0] [] M = some r := cd_at (cuts := [6, 10, 14]) (n := 400) (cd_bd1) rfl h
set_option maxRecDepth 1000000 in
set_option maxHeartbeats 8000000 in
theorem cd_q1_10 {a0 : Nat} {M : cd_M} {r : cd_Ret} (h : (if (64 : Int32) < 0 ∨ 65536 < (64 : Int32) ∨ ¬ M.1.length < 900 then none else if cd_k (cd_new M 20 64) a0 = 1 then (cd_go 1 14 [.ref a0] [] (cd_wR (cd_new M 20 64) a0 2 M.1.length)) else none) = some r) : cd_go 1 10 [.ref a0] [] M = some r := cd_at (cuts := [6, 10, 14]) (n := 400) (cd_bd1) rfl h
set_option maxRecDepth 1000000 in
set_option maxHeartbeats 8000000 in
theorem cd_q1_14 {a0 : Nat} {M : cd_M} {r : cd_Ret} (h : (some (none, M)) = some r) : cd_go 1 14 [.ref a0] [] M = some r := cd_at (cuts := [6, 10, 14]) (n := 400) (cd_bd1) rfl h
theorem cd_bd2 : cd_body 2 = cd_b2 := rfl
set_option maxRecDepth 1000000 in
set_option maxHeartbeats 8000000 in
theorem cd_q2_0 {a0 : Nat} {x1 : Int32} {M : cd_M} {r : cd_Ret} (h : (if cd_k M a0 = 20 then (cd_go 2 5 [.ref a0, .int x1, .int 0, .int (Int32.ofNat (cd_n M a0))] [] M) else none) = some r) : cd_go 2 0 [.ref a0, .int x1, .null, .null] [] M = some r := cd_at (cuts := [5]) (n := 400) (cd_bd2) rfl h
set_option maxRecDepth 1000000 in
set_option maxHeartbeats 8000000 in
theorem cd_q2_5 {a0 : Nat} {x1 : Int32} {x2 : Int32} {x3 : Int32} {M : cd_M} {r : cd_Ret} (h : (if x2 < x3 then (if cd_k M a0 = 20 ∧ cd_in x2 (cd_n M a0) = true then (cd_go 2 5 [.ref a0, .int x1, .int (x2 + 1), .int x3] [] (cd_wI M a0 x2.toNatClampNeg x1)) else none) else some (none, M)) = some r) : cd_go 2 5 [.ref a0, .int x1, .int x2, .int x3] [] M = some r := cd_at (cuts := [5]) (n := 400) (cd_bd2) rfl h
theorem cd_bd3 : cd_body 3 = cd_b3 := rfl
set_option maxRecDepth 1000000 in
set_option maxHeartbeats 8000000 in
theorem cd_q3_0 {a0 : Nat} {M : cd_M} {r : cd_Ret} (h : (if a0 ≠ 0 then (if (256 : Int32) < 0 ∨ 65536 < (256 : Int32) ∨ ¬ M.1.length < 900 then none else if cd_k (cd_new M 21 256) a0 = 0 then (cd_go 3 6 [.ref a0] [] (cd_wR (cd_new M 21 256) a0 0 M.1.length)) else none) else none) = some r) : cd_go 3 0 [.ref a0] [] M = some r := cd_at (cuts := [6, 10, 14, 18, 22, 26, 30, 34, 35, 39]) (n := 400) (cd_bd3) rfl h
set_option maxRecDepth 1000000 in
set_option maxHeartbeats 8000000 in
theorem cd_q3_6 {a0 : Nat} {M : cd_M} {r : cd_Ret} (h : (if (256 : Int32) < 0 ∨ 65536 < (256 : Int32) ∨ ¬ M.1.length < 900 then none else if cd_k (cd_new M 20 256) a0 = 0 then (cd_go 3 10 [.ref a0] [] (cd_wR (cd_new M 20 256) a0 1 M.1.length)) else none) = some r) : cd_go 3 6 [.ref a0] [] M = some r := cd_at (cuts := [6, 10, 14, 18, 22, 26, 30, 34, 35, 39]) (n := 400) (cd_bd3) rfl h
set_option maxRecDepth 1000000 in
set_option maxHeartbeats 8000000 in
theorem cd_q3_10 {a0 : Nat} {M : cd_M} {r : cd_Ret} (h : (if (3072 : Int32) < 0 ∨ 65536 < (3072 : Int32) ∨ ¬ M.1.length < 900 then none else if cd_k (cd_new M 20 3072) a0 = 0 then (cd_go 3 14 [.ref a0] [] (cd_wR (cd_new M 20 3072) a0 2 M.1.length)) else none) = some r) : cd_go 3 10 [.ref a0] [] M = some r := cd_at (cuts := [6, 10, 14, 18, 22, 26, 30, 34, 35, 39]) (n := 400) (cd_bd3) rfl h
set_option maxRecDepth 1000000 in
set_option maxHeartbeats 8000000 in
theorem cd_q3_14 {a0 : Nat} {M : cd_M} {r : cd_Ret} (h : (if (3072 : Int32) < 0 ∨ 65536 < (3072 : Int32) ∨ ¬ M.1.length < 900 then none else if cd_k (cd_new M 20 3072) a0 = 0 then (cd_go 3 18 [.ref a0] [] (cd_wR (cd_new M 20 3072) a0 3 M.1.length)) else none) = some r) : cd_go 3 14 [.ref a0] [] M = some r := cd_at (cuts := [6, 10, 14, 18, 22, 26, 30, 34, 35, 39]) (n := 400) (cd_bd3) rfl h
set_option maxRecDepth 1000000 in
set_option maxHeartbeats 8000000 in
theorem cd_q3_18 {a0 : Nat} {M : cd_M} {r : cd_Ret} (h : (if (3072 : Int32) < 0 ∨ 65536 < (3072 : Int32) ∨ ¬ M.1.length < 900 then none else if cd_k (cd_new M 20 3072) a0 = 0 then (cd_go 3 22 [.ref a0] [] (cd_wR (cd_new M 20 3072) a0 4 M.1.length)) else none) = some r) : cd_go 3 18 [.ref a0] [] M = some r := cd_at (cuts := [6, 10, 14, 18, 22, 26, 30, 34, 35, 39]) (n := 400) (cd_bd3) rfl h
set_option maxRecDepth 1000000 in
set_option maxHeartbeats 8000000 in
theorem cd_q3_22 {a0 : Nat} {M : cd_M} {r : cd_Ret} (h : (if (256 : Int32) < 0 ∨ 65536 < (256 : Int32) ∨ ¬ M.1.length < 900 then none else if cd_k (cd_new M 20 256) a0 = 0 then (cd_go 3 26 [.ref a0] [] (cd_wR (cd_new M 20 256) a0 5 M.1.length)) else none) = some r) : cd_go 3 22 [.ref a0] [] M = some r := cd_at (cuts := [6, 10, 14, 18, 22, 26, 30, 34, 35, 39]) (n := 400) (cd_bd3) rfl h
set_option maxRecDepth 1000000 in
set_option maxHeartbeats 8000000 in
theorem cd_q3_26 {a0 : Nat} {M : cd_M} {r : cd_Ret} (h : (if (256 : Int32) < 0 ∨ 65536 < (256 : Int32) ∨ ¬ M.1.length < 900 then none else if cd_k (cd_new M 20 256) a0 = 0 then (cd_go 3 30 [.ref a0] [] (cd_wR (cd_new M 20 256) a0 6 M.1.length)) else none) = some r) : cd_go 3 26 [.ref a0] [] M = some r := cd_at (cuts := [6, 10, 14, 18, 22, 26, 30, 34, 35, 39]) (n := 400) (cd_bd3) rfl h
set_option maxRecDepth 1000000 in
set_option maxHeartbeats 8000000 in
theorem cd_q3_30 {a0 : Nat} {M : cd_M} {r : cd_Ret} (h : (if M.1.length < 900 then (if cd_k (cd_new M 1 3) M.1.length = 1 then ((cd_cv (cd_c 1 [.ref M.1.length] (cd_new M 1 3))).bind fun m1 => cd_go 3 34 [.ref a0] [.ref M.1.length, .ref a0] m1) else none) else none) = some r) : cd_go 3 30 [.ref a0] [] M = some r := cd_at (cuts := [6, 10, 14, 18, 22, 26, 30, 34, 35, 39]) (n := 400) (cd_bd3) rfl h
set_option maxRecDepth 1000000 in
set_option maxHeartbeats 8000000 in
theorem cd_q3_34 {a0 : Nat} {u0 : Nat} {u1 : Nat} {M : cd_M} {r : cd_Ret} (h : (if cd_k M u0 = 0 then (cd_go 3 35 [.ref a0] [] (cd_wR M u0 7 u1)) else none) = some r) : cd_go 3 34 [.ref a0] [.ref u1, .ref u0] M = some r := cd_at (cuts := [6, 10, 14, 18, 22, 26, 30, 34, 35, 39]) (n := 400) (cd_bd3) rfl h
set_option maxRecDepth 1000000 in
set_option maxHeartbeats 8000000 in
theorem cd_q3_35 {a0 : Nat} {M : cd_M} {r : cd_Ret} (h : (if cd_k M a0 = 0 then ((cd_cv (cd_c 2 [.ref (cd_R M a0 1), .int (-1)] M)).bind fun m1 => cd_go 3 39 [.ref a0] [] m1) else none) = some r) : cd_go 3 35 [.ref a0] [] M = some r := cd_at (cuts := [6, 10, 14, 18, 22, 26, 30, 34, 35, 39]) (n := 400) (cd_bd3) rfl h
set_option maxRecDepth 1000000 in
set_option maxHeartbeats 8000000 in
theorem cd_q3_39 {a0 : Nat} {M : cd_M} {r : cd_Ret} (h : (some (none, M)) = some r) : cd_go 3 39 [.ref a0] [] M = some r := cd_at (cuts := [6, 10, 14, 18, 22, 26, 30, 34, 35, 39]) (n := 400) (cd_bd3) rfl h
theorem cd_bd4 : cd_body 4 = cd_b4 := rfl
set_option maxRecDepth 1000000 in
set_option maxHeartbeats 8000000 in
theorem cd_q4_0 {a0 : Nat} {M : cd_M} {r : cd_Ret} (h : (if a0 ≠ 0 then (if M.1.length < 900 then (if cd_k (cd_new M 0 8) M.1.length = 0 then ((cd_cv (cd_c 3 [.ref M.1.length] (cd_new M 0 8))).bind fun m1 => cd_go 4 6 [.ref a0] [.ref M.1.length, .ref a0] m1) else none) else none) else none) = some r) : cd_go 4 0 [.ref a0] [] M = some r := cd_at (cuts := [6, 7, 11, 15, 19, 22, 25, 28]) (n := 400) (cd_bd4) rfl h
set_option maxRecDepth 1000000 in
set_option maxHeartbeats 8000000 in
theorem cd_q4_6 {a0 : Nat} {u0 : Nat} {u1 : Nat} {M : cd_M} {r : cd_Ret} (h : (if cd_k M u0 = 5 then (cd_go 4 7 [.ref a0] [] (cd_wR M u0 0 u1)) else none) = some r) : cd_go 4 6 [.ref a0] [.ref u1, .ref u0] M = some r := cd_at (cuts := [6, 7, 11, 15, 19, 22, 25, 28]) (n := 400) (cd_bd4) rfl h
set_option maxRecDepth 1000000 in
set_option maxHeartbeats 8000000 in
theorem cd_q4_7 {a0 : Nat} {M : cd_M} {r : cd_Ret} (h : (if (8 : Int32) < 0 ∨ 65536 < (8 : Int32) ∨ ¬ M.1.length < 900 then none else if cd_k (cd_new M 20 8) a0 = 5 then (cd_go 4 11 [.ref a0] [] (cd_wR (cd_new M 20 8) a0 1 M.1.length)) else none) = some r) : cd_go 4 7 [.ref a0] [] M = some r := cd_at (cuts := [6, 7, 11, 15, 19, 22, 25, 28]) (n := 400) (cd_bd4) rfl h
set_option maxRecDepth 1000000 in
set_option maxHeartbeats 8000000 in
theorem cd_q4_11 {a0 : Nat} {M : cd_M} {r : cd_Ret} (h : (if (8 : Int32) < 0 ∨ 65536 < (8 : Int32) ∨ ¬ M.1.length < 900 then none else if cd_k (cd_new M 20 8) a0 = 5 then (cd_go 4 15 [.ref a0] [] (cd_wR (cd_new M 20 8) a0 2 M.1.length)) else none) = some r) : cd_go 4 11 [.ref a0] [] M = some r := cd_at (cuts := [6, 7, 11, 15, 19, 22, 25, 28]) (n := 400) (cd_bd4) rfl h
set_option maxRecDepth 1000000 in
set_option maxHeartbeats 8000000 in
theorem cd_q4_15 {a0 : Nat} {M : cd_M} {r : cd_Ret} (h : (if (8 : Int32) < 0 ∨ 65536 < (8 : Int32) ∨ ¬ M.1.length < 900 then none else if cd_k (cd_new M 20 8) a0 = 5 then (cd_go 4 19 [.ref a0] [] (cd_wR (cd_new M 20 8) a0 3 M.1.length)) else none) = some r) : cd_go 4 15 [.ref a0] [] M = some r := cd_at (cuts := [6, 7, 11, 15, 19, 22, 25, 28]) (n := 400) (cd_bd4) rfl h
set_option maxRecDepth 1000000 in
set_option maxHeartbeats 8000000 in
theorem cd_q4_19 {a0 : Nat} {M : cd_M} {r : cd_Ret} (h : (if cd_k M a0 = 5 then (cd_go 4 22 [.ref a0] [] (cd_wI M a0 4 0)) else none) = some r) : cd_go 4 19 [.ref a0] [] M = some r := cd_at (cuts := [6, 7, 11, 15, 19, 22, 25, 28]) (n := 400) (cd_bd4) rfl h
set_option maxRecDepth 1000000 in
set_option maxHeartbeats 8000000 in
theorem cd_q4_22 {a0 : Nat} {M : cd_M} {r : cd_Ret} (h : (if cd_k M a0 = 5 then (cd_go 4 25 [.ref a0] [] (cd_wI M a0 5 0)) else none) = some r) : cd_go 4 22 [.ref a0] [] M = some r := cd_at (cuts := [6, 7, 11, 15, 19, 22, 25, 28]) (n := 400) (cd_bd4) rfl h
set_option maxRecDepth 1000000 in
set_option maxHeartbeats 8000000 in
theorem cd_q4_25 {a0 : Nat} {M : cd_M} {r : cd_Ret} (h : (if cd_k M a0 = 5 then (cd_go 4 28 [.ref a0] [] (cd_wI M a0 6 (-1))) else none) = some r) : cd_go 4 25 [.ref a0] [] M = some r := cd_at (cuts := [6, 7, 11, 15, 19, 22, 25, 28]) (n := 400) (cd_bd4) rfl h
set_option maxRecDepth 1000000 in
set_option maxHeartbeats 8000000 in
theorem cd_q4_28 {a0 : Nat} {M : cd_M} {r : cd_Ret} (h : (some (none, M)) = some r) : cd_go 4 28 [.ref a0] [] M = some r := cd_at (cuts := [6, 7, 11, 15, 19, 22, 25, 28]) (n := 400) (cd_bd4) rfl h
theorem cd_bd5 : cd_body 5 = cd_b5 := rfl
set_option maxRecDepth 1000000 in
set_option maxHeartbeats 8000000 in
theorem cd_q5_0 {a0 : Nat} {M : cd_M} {r : cd_Ret} (h : (if a0 ≠ 0 then (if (8 : Int32) < 0 ∨ 65536 < (8 : Int32) ∨ ¬ M.1.length < 900 then none else if cd_k (cd_new M 20 8) a0 = 6 then (cd_go 5 6 [.ref a0] [] (cd_wR (cd_new M 20 8) a0 0 M.1.length)) else none) else none) = some r) : cd_go 5 0 [.ref a0] [] M = some r := cd_at (cuts := [6, 9, 12, 16, 20]) (n := 400) (cd_bd5) rfl h
set_option maxRecDepth 1000000 in
set_option maxHeartbeats 8000000 in
theorem cd_q5_6 {a0 : Nat} {M : cd_M} {r : cd_Ret} (h : (if cd_k M a0 = 6 then (cd_go 5 9 [.ref a0] [] (cd_wI M a0 1 0)) else none) = some r) : cd_go 5 6 [.ref a0] [] M = some r := cd_at (cuts := [6, 9, 12, 16, 20]) (n := 400) (cd_bd5) rfl h
set_option maxRecDepth 1000000 in
set_option maxHeartbeats 8000000 in
theorem cd_q5_9 {a0 : Nat} {M : cd_M} {r : cd_Ret} (h : (if cd_k M a0 = 6 then (cd_go 5 12 [.ref a0] [] (cd_wI M a0 2 0)) else none) = some r) : cd_go 5 9 [.ref a0] [] M = some r := cd_at (cuts := [6, 9, 12, 16, 20]) (n := 400) (cd_bd5) rfl h
set_option maxRecDepth 1000000 in
set_option maxHeartbeats 8000000 in
theorem cd_q5_12 {a0 : Nat} {M : cd_M} {r : cd_Ret} (h : (if (12 : Int32) < 0 ∨ 65536 < (12 : Int32) ∨ ¬ M.1.length < 900 then none else if cd_k (cd_new M 20 12) a0 = 6 then (cd_go 5 16 [.ref a0] [] (cd_wR (cd_new M 20 12) a0 3 M.1.length)) else none) = some r) : cd_go 5 12 [.ref a0] [] M = some r := cd_at (cuts := [6, 9, 12, 16, 20]) (n := 400) (cd_bd5) rfl h
set_option maxRecDepth 1000000 in
set_option maxHeartbeats 8000000 in
theorem cd_q5_16 {a0 : Nat} {M : cd_M} {r : cd_Ret} (h : (if (12 : Int32) < 0 ∨ 65536 < (12 : Int32) ∨ ¬ M.1.length < 900 then none else if cd_k (cd_new M 20 12) a0 = 6 then (cd_go 5 20 [.ref a0] [] (cd_wR (cd_new M 20 12) a0 4 M.1.length)) else none) = some r) : cd_go 5 16 [.ref a0] [] M = some r := cd_at (cuts := [6, 9, 12, 16, 20]) (n := 400) (cd_bd5) rfl h
set_option maxRecDepth 1000000 in
set_option maxHeartbeats 8000000 in
theorem cd_q5_20 {a0 : Nat} {M : cd_M} {r : cd_Ret} (h : (some (none, M)) = some r) : cd_go 5 20 [.ref a0] [] M = some r := cd_at (cuts := [6, 9, 12, 16, 20]) (n := 400) (cd_bd5) rfl h
theorem cd_bd6 : cd_body 6 = cd_b6 := rfl
set_option maxRecDepth 1000000 in
set_option maxHeartbeats 8000000 in
theorem cd_q6_0 {a0 : Nat} {M : cd_M} {r : cd_Ret} (h : (if a0 ≠ 0 then (if (60 : Int32) < 0 ∨ 65536 < (60 : Int32) ∨ ¬ M.1.length < 900 then none else if cd_k (cd_new M 20 60) a0 = 2 then (cd_go 6 6 [.ref a0] [] (cd_wR (cd_new M 20 60) a0 0 M.1.length)) else none) else none) = some r) : cd_go 6 0 [.ref a0] [] M = some r := cd_at (cuts := [6, 10, 13]) (n := 400) (cd_bd6) rfl h
set_option maxRecDepth 1000000 in
set_option maxHeartbeats 8000000 in
theorem cd_q6_6 {a0 : Nat} {M : cd_M} {r : cd_Ret} (h : (if (60 : Int32) < 0 ∨ 65536 < (60 : Int32) ∨ ¬ M.1.length < 900 then none else if cd_k (cd_new M 20 60) a0 = 2 then (cd_go 6 10 [.ref a0] [] (cd_wR (cd_new M 20 60) a0 1 M.1.length)) else none) = some r) : cd_go 6 6 [.ref a0] [] M = some r := cd_at (cuts := [6, 10, 13]) (n := 400) (cd_bd6) rfl h
set_option maxRecDepth 1000000 in
set_option maxHeartbeats 8000000 in
theorem cd_q6_10 {a0 : Nat} {M : cd_M} {r : cd_Ret} (h : (if cd_k M a0 = 2 then (cd_go 6 13 [.ref a0] [] (cd_wI M a0 2 0)) else none) = some r) : cd_go 6 10 [.ref a0] [] M = some r := cd_at (cuts := [6, 10, 13]) (n := 400) (cd_bd6) rfl h
set_option maxRecDepth 1000000 in
set_option maxHeartbeats 8000000 in
theorem cd_q6_13 {a0 : Nat} {M : cd_M} {r : cd_Ret} (h : (some (none, M)) = some r) : cd_go 6 13 [.ref a0] [] M = some r := cd_at (cuts := [6, 10, 13]) (n := 400) (cd_bd6) rfl h
theorem cd_bd7 : cd_body 7 = cd_b7 := rfl
set_option maxRecDepth 1000000 in
set_option maxHeartbeats 8000000 in
theorem cd_q7_0 {a0 : Nat} {M : cd_M} {r : cd_Ret} (h : (if a0 ≠ 0 then (if M.1.length < 900 then (if cd_k (cd_new M 6 5) M.1.length = 6 then ((cd_cv (cd_c 5 [.ref M.1.length] (cd_new M 6 5))).bind fun m1 => cd_go 7 6 [.ref a0] [.ref M.1.length, .ref a0] m1) else none) else none) else none) = some r) : cd_go 7 0 [.ref a0] [] M = some r := cd_at (cuts := [6, 7, 11, 12, 16, 20, 24, 27, 30, 33, 36, 39, 42, 45, 48]) (n := 400) (cd_bd7) rfl h
set_option maxRecDepth 1000000 in
set_option maxHeartbeats 8000000 in
theorem cd_q7_6 {a0 : Nat} {u0 : Nat} {u1 : Nat} {M : cd_M} {r : cd_Ret} (h : (if cd_k M u0 = 8 then (cd_go 7 7 [.ref a0] [] (cd_wR M u0 0 u1)) else none) = some r) : cd_go 7 6 [.ref a0] [.ref u1, .ref u0] M = some r := cd_at (cuts := [6, 7, 11, 12, 16, 20, 24, 27, 30, 33, 36, 39, 42, 45, 48]) (n := 400) (cd_bd7) rfl h
set_option maxRecDepth 1000000 in
set_option maxHeartbeats 8000000 in
theorem cd_q7_7 {a0 : Nat} {M : cd_M} {r : cd_Ret} (h : (if M.1.length < 900 then (if cd_k (cd_new M 2 3) M.1.length = 2 then ((cd_cv (cd_c 6 [.ref M.1.length] (cd_new M 2 3))).bind fun m1 => cd_go 7 11 [.ref a0] [.ref M.1.length, .ref a0] m1) else none) else none) = some r) : cd_go 7 7 [.ref a0] [] M = some r := cd_at (cuts := [6, 7, 11, 12, 16, 20, 24, 27, 30, 33, 36, 39, 42, 45, 48]) (n := 400) (cd_bd7) rfl h
set_option maxRecDepth 1000000 in
set_option maxHeartbeats 8000000 in
theorem cd_q7_11 {a0 : Nat} {u0 : Nat} {u1 : Nat} {M : cd_M} {r : cd_Ret} (h : (if cd_k M u0 = 8 then (cd_go 7 12 [.ref a0] [] (cd_wR M u0 1 u1)) else none) = some r) : cd_go 7 11 [.ref a0] [.ref u1, .ref u0] M = some r := cd_at (cuts := [6, 7, 11, 12, 16, 20, 24, 27, 30, 33, 36, 39, 42, 45, 48]) (n := 400) (cd_bd7) rfl h
set_option maxRecDepth 1000000 in
set_option maxHeartbeats 8000000 in
theorem cd_q7_12 {a0 : Nat} {M : cd_M} {r : cd_Ret} (h : (if (128 : Int32) < 0 ∨ 65536 < (128 : Int32) ∨ ¬ M.1.length < 900 then none else if cd_k (cd_new M 22 128) a0 = 8 then (cd_go 7 16 [.ref a0] [] (cd_wR (cd_new M 22 128) a0 2 M.1.length)) else none) = some r) : cd_go 7 12 [.ref a0] [] M = some r := cd_at (cuts := [6, 7, 11, 12, 16, 20, 24, 27, 30, 33, 36, 39, 42, 45, 48]) (n := 400) (cd_bd7) rfl h
set_option maxRecDepth 1000000 in
set_option maxHeartbeats 8000000 in
theorem cd_q7_16 {a0 : Nat} {M : cd_M} {r : cd_Ret} (h : (if (7 : Int32) < 0 ∨ 65536 < (7 : Int32) ∨ ¬ M.1.length < 900 then none else if cd_k (cd_new M 20 7) a0 = 8 then (cd_go 7 20 [.ref a0] [] (cd_wR (cd_new M 20 7) a0 3 M.1.length)) else none) = some r) : cd_go 7 16 [.ref a0] [] M = some r := cd_at (cuts := [6, 7, 11, 12, 16, 20, 24, 27, 30, 33, 36, 39, 42, 45, 48]) (n := 400) (cd_bd7) rfl h
set_option maxRecDepth 1000000 in
set_option maxHeartbeats 8000000 in
theorem cd_q7_20 {a0 : Nat} {M : cd_M} {r : cd_Ret} (h : (if (7 : Int32) < 0 ∨ 65536 < (7 : Int32) ∨ ¬ M.1.length < 900 then none else if cd_k (cd_new M 20 7) a0 = 8 then (cd_go 7 24 [.ref a0] [] (cd_wR (cd_new M 20 7) a0 4 M.1.length)) else none) = some r) : cd_go 7 20 [.ref a0] [] M = some r := cd_at (cuts := [6, 7, 11, 12, 16, 20, 24, 27, 30, 33, 36, 39, 42, 45, 48]) (n := 400) (cd_bd7) rfl h
set_option maxRecDepth 1000000 in
set_option maxHeartbeats 8000000 in
theorem cd_q7_24 {a0 : Nat} {M : cd_M} {r : cd_Ret} (h : (if cd_k M a0 = 8 then (cd_go 7 27 [.ref a0] [] (cd_wI M a0 5 0)) else none) = some r) : cd_go 7 24 [.ref a0] [] M = some r := cd_at (cuts := [6, 7, 11, 12, 16, 20, 24, 27, 30, 33, 36, 39, 42, 45, 48]) (n := 400) (cd_bd7) rfl h
set_option maxRecDepth 1000000 in
set_option maxHeartbeats 8000000 in
theorem cd_q7_27 {a0 : Nat} {M : cd_M} {r : cd_Ret} (h : (if cd_k M a0 = 8 then (cd_go 7 30 [.ref a0] [] (cd_wI M a0 6 0)) else none) = some r) : cd_go 7 27 [.ref a0] [] M = some r := cd_at (cuts := [6, 7, 11, 12, 16, 20, 24, 27, 30, 33, 36, 39, 42, 45, 48]) (n := 400) (cd_bd7) rfl h
set_option maxRecDepth 1000000 in
set_option maxHeartbeats 8000000 in
theorem cd_q7_30 {a0 : Nat} {M : cd_M} {r : cd_Ret} (h : (if cd_k M a0 = 8 then (cd_go 7 33 [.ref a0] [] (cd_wI M a0 7 0)) else none) = some r) : cd_go 7 30 [.ref a0] [] M = some r := cd_at (cuts := [6, 7, 11, 12, 16, 20, 24, 27, 30, 33, 36, 39, 42, 45, 48]) (n := 400) (cd_bd7) rfl h
set_option maxRecDepth 1000000 in
set_option maxHeartbeats 8000000 in
theorem cd_q7_33 {a0 : Nat} {M : cd_M} {r : cd_Ret} (h : (if cd_k M a0 = 8 then (cd_go 7 36 [.ref a0] [] (cd_wI M a0 8 0)) else none) = some r) : cd_go 7 33 [.ref a0] [] M = some r := cd_at (cuts := [6, 7, 11, 12, 16, 20, 24, 27, 30, 33, 36, 39, 42, 45, 48]) (n := 400) (cd_bd7) rfl h
set_option maxRecDepth 1000000 in
set_option maxHeartbeats 8000000 in
theorem cd_q7_36 {a0 : Nat} {M : cd_M} {r : cd_Ret} (h : (if cd_k M a0 = 8 then (cd_go 7 39 [.ref a0] [] (cd_wL M a0 9 0)) else none) = some r) : cd_go 7 36 [.ref a0] [] M = some r := cd_at (cuts := [6, 7, 11, 12, 16, 20, 24, 27, 30, 33, 36, 39, 42, 45, 48]) (n := 400) (cd_bd7) rfl h
set_option maxRecDepth 1000000 in
set_option maxHeartbeats 8000000 in
theorem cd_q7_39 {a0 : Nat} {M : cd_M} {r : cd_Ret} (h : (if cd_k M a0 = 8 then (cd_go 7 42 [.ref a0] [] (cd_wI M a0 10 0)) else none) = some r) : cd_go 7 39 [.ref a0] [] M = some r := cd_at (cuts := [6, 7, 11, 12, 16, 20, 24, 27, 30, 33, 36, 39, 42, 45, 48]) (n := 400) (cd_bd7) rfl h
set_option maxRecDepth 1000000 in
set_option maxHeartbeats 8000000 in
theorem cd_q7_42 {a0 : Nat} {M : cd_M} {r : cd_Ret} (h : (if cd_k M a0 = 8 then (cd_go 7 45 [.ref a0] [] (cd_wI M a0 11 0)) else none) = some r) : cd_go 7 42 [.ref a0] [] M = some r := cd_at (cuts := [6, 7, 11, 12, 16, 20, 24, 27, 30, 33, 36, 39, 42, 45, 48]) (n := 400) (cd_bd7) rfl h
set_option maxRecDepth 1000000 in
set_option maxHeartbeats 8000000 in
theorem cd_q7_45 {a0 : Nat} {M : cd_M} {r : cd_Ret} (h : (if cd_k M a0 = 8 then (cd_go 7 48 [.ref a0] [] (cd_wI M a0 12 0)) else none) = some r) : cd_go 7 45 [.ref a0] [] M = some r := cd_at (cuts := [6, 7, 11, 12, 16, 20, 24, 27, 30, 33, 36, 39, 42, 45, 48]) (n := 400) (cd_bd7) rfl h
set_option maxRecDepth 1000000 in
set_option maxHeartbeats 8000000 in
theorem cd_q7_48 {a0 : Nat} {M : cd_M} {r : cd_Ret} (h : (some (none, M)) = some r) : cd_go 7 48 [.ref a0] [] M = some r := cd_at (cuts := [6, 7, 11, 12, 16, 20, 24, 27, 30, 33, 36, 39, 42, 45, 48]) (n := 400) (cd_bd7) rfl h
theorem cd_bd8 : cd_body 8 = cd_b8 := rfl
set_option maxRecDepth 1000000 in
set_option maxHeartbeats 8000000 in
theorem cd_q8_0 {a0 : Nat} {M : cd_M} {r : cd_Ret} (h : (if a0 ≠ 0 then (if (256 : Int32) < 0 ∨ 65536 < (256 : Int32) ∨ ¬ M.1.length < 900 then none else if cd_k (cd_new M 20 256) a0 = 7 then (cd_go 8 6 [.ref a0] [] (cd_wR (cd_new M 20 256) a0 0 M.1.length)) else none) else none) = some r) : cd_go 8 0 [.ref a0] [] M = some r := cd_at (cuts := [6, 10, 14, 18, 22, 25, 28]) (n := 400) (cd_bd8) rfl h
set_option maxRecDepth 1000000 in
set_option maxHeartbeats 8000000 in
theorem cd_q8_6 {a0 : Nat} {M : cd_M} {r : cd_Ret} (h : (if (256 : Int32) < 0 ∨ 65536 < (256 : Int32) ∨ ¬ M.1.length < 900 then none else if cd_k (cd_new M 20 256) a0 = 7 then (cd_go 8 10 [.ref a0] [] (cd_wR (cd_new M 20 256) a0 1 M.1.length)) else none) = some r) : cd_go 8 6 [.ref a0] [] M = some r := cd_at (cuts := [6, 10, 14, 18, 22, 25, 28]) (n := 400) (cd_bd8) rfl h
set_option maxRecDepth 1000000 in
set_option maxHeartbeats 8000000 in
theorem cd_q8_10 {a0 : Nat} {M : cd_M} {r : cd_Ret} (h : (if (256 : Int32) < 0 ∨ 65536 < (256 : Int32) ∨ ¬ M.1.length < 900 then none else if cd_k (cd_new M 22 256) a0 = 7 then (cd_go 8 14 [.ref a0] [] (cd_wR (cd_new M 22 256) a0 2 M.1.length)) else none) = some r) : cd_go 8 10 [.ref a0] [] M = some r := cd_at (cuts := [6, 10, 14, 18, 22, 25, 28]) (n := 400) (cd_bd8) rfl h
set_option maxRecDepth 1000000 in
set_option maxHeartbeats 8000000 in
theorem cd_q8_14 {a0 : Nat} {M : cd_M} {r : cd_Ret} (h : (if (8 : Int32) < 0 ∨ 65536 < (8 : Int32) ∨ ¬ M.1.length < 900 then none else if cd_k (cd_new M 20 8) a0 = 7 then (cd_go 8 18 [.ref a0] [] (cd_wR (cd_new M 20 8) a0 3 M.1.length)) else none) = some r) : cd_go 8 14 [.ref a0] [] M = some r := cd_at (cuts := [6, 10, 14, 18, 22, 25, 28]) (n := 400) (cd_bd8) rfl h
set_option maxRecDepth 1000000 in
set_option maxHeartbeats 8000000 in
theorem cd_q8_18 {a0 : Nat} {M : cd_M} {r : cd_Ret} (h : (if (8 : Int32) < 0 ∨ 65536 < (8 : Int32) ∨ ¬ M.1.length < 900 then none else if cd_k (cd_new M 20 8) a0 = 7 then (cd_go 8 22 [.ref a0] [] (cd_wR (cd_new M 20 8) a0 4 M.1.length)) else none) = some r) : cd_go 8 18 [.ref a0] [] M = some r := cd_at (cuts := [6, 10, 14, 18, 22, 25, 28]) (n := 400) (cd_bd8) rfl h
set_option maxRecDepth 1000000 in
set_option maxHeartbeats 8000000 in
theorem cd_q8_22 {a0 : Nat} {M : cd_M} {r : cd_Ret} (h : (if cd_k M a0 = 7 then (cd_go 8 25 [.ref a0] [] (cd_wI M a0 5 0)) else none) = some r) : cd_go 8 22 [.ref a0] [] M = some r := cd_at (cuts := [6, 10, 14, 18, 22, 25, 28]) (n := 400) (cd_bd8) rfl h
set_option maxRecDepth 1000000 in
set_option maxHeartbeats 8000000 in
theorem cd_q8_25 {a0 : Nat} {M : cd_M} {r : cd_Ret} (h : (if cd_k M a0 = 7 then (cd_go 8 28 [.ref a0] [] (cd_wI M a0 6 0)) else none) = some r) : cd_go 8 25 [.ref a0] [] M = some r := cd_at (cuts := [6, 10, 14, 18, 22, 25, 28]) (n := 400) (cd_bd8) rfl h
set_option maxRecDepth 1000000 in
set_option maxHeartbeats 8000000 in
theorem cd_q8_28 {a0 : Nat} {M : cd_M} {r : cd_Ret} (h : (some (none, M)) = some r) : cd_go 8 28 [.ref a0] [] M = some r := cd_at (cuts := [6, 10, 14, 18, 22, 25, 28]) (n := 400) (cd_bd8) rfl h
theorem cd_bd9 : cd_body 9 = cd_b9 := rfl
set_option maxRecDepth 1000000 in
set_option maxHeartbeats 8000000 in
theorem cd_q9_0 {a0 : Nat} {M : cd_M} {r : cd_Ret} (h : (if a0 ≠ 0 then (if cd_k M a0 = 9 then (cd_go 9 5 [.ref a0] [] (cd_wI M a0 0 0)) else none) else none) = some r) : cd_go 9 0 [.ref a0] [] M = some r := cd_at (cuts := [5, 8, 11, 14, 17]) (n := 400) (cd_bd9) rfl h
set_option maxRecDepth 1000000 in
set_option maxHeartbeats 8000000 in
theorem cd_q9_5 {a0 : Nat} {M : cd_M} {r : cd_Ret} (h : (if cd_k M a0 = 9 then (cd_go 9 8 [.ref a0] [] (cd_wI M a0 1 5)) else none) = some r) : cd_go 9 5 [.ref a0] [] M = some r := cd_at (cuts := [5, 8, 11, 14, 17]) (n := 400) (cd_bd9) rfl h
set_option maxRecDepth 1000000 in
set_option maxHeartbeats 8000000 in
theorem cd_q9_8 {a0 : Nat} {M : cd_M} {r : cd_Ret} (h : (if cd_k M a0 = 9 then (cd_go 9 11 [.ref a0] [] (cd_wI M a0 2 99)) else none) = some r) : cd_go 9 8 [.ref a0] [] M = some r := cd_at (cuts := [5, 8, 11, 14, 17]) (n := 400) (cd_bd9) rfl h
set_option maxRecDepth 1000000 in
set_option maxHeartbeats 8000000 in
theorem cd_q9_11 {a0 : Nat} {M : cd_M} {r : cd_Ret} (h : (if cd_k M a0 = 9 then (cd_go 9 14 [.ref a0] [] (cd_wI M a0 3 0)) else none) = some r) : cd_go 9 11 [.ref a0] [] M = some r := cd_at (cuts := [5, 8, 11, 14, 17]) (n := 400) (cd_bd9) rfl h
set_option maxRecDepth 1000000 in
set_option maxHeartbeats 8000000 in
theorem cd_q9_14 {a0 : Nat} {M : cd_M} {r : cd_Ret} (h : (if cd_k M a0 = 9 then (cd_go 9 17 [.ref a0] [] (cd_wI M a0 4 0)) else none) = some r) : cd_go 9 14 [.ref a0] [] M = some r := cd_at (cuts := [5, 8, 11, 14, 17]) (n := 400) (cd_bd9) rfl h
set_option maxRecDepth 1000000 in
set_option maxHeartbeats 8000000 in
theorem cd_q9_17 {a0 : Nat} {M : cd_M} {r : cd_Ret} (h : (some (none, M)) = some r) : cd_go 9 17 [.ref a0] [] M = some r := cd_at (cuts := [5, 8, 11, 14, 17]) (n := 400) (cd_bd9) rfl h
theorem cd_bd10 : cd_body 10 = cd_b10 := rfl
set_option maxRecDepth 1000000 in
set_option maxHeartbeats 8000000 in
theorem cd_q10_0 {a0 : Nat} {M : cd_M} {r : cd_Ret} (h : (if a0 ≠ 0 then (if cd_k M a0 = 3 then (cd_go 10 5 [.ref a0] [] (cd_wI M a0 0 0)) else none) else none) = some r) : cd_go 10 0 [.ref a0] [] M = some r := cd_at (cuts := [5, 8, 11, 14, 18, 22, 26, 30, 34, 38, 42, 46, 50, 54, 58, 62, 65, 68, 71, 75, 76]) (n := 400) (cd_bd10) rfl h
set_option maxRecDepth 1000000 in
set_option maxHeartbeats 8000000 in
theorem cd_q10_5 {a0 : Nat} {M : cd_M} {r : cd_Ret} (h : (if cd_k M a0 = 3 then (cd_go 10 8 [.ref a0] [] (cd_wI M a0 1 0)) else none) = some r) : cd_go 10 5 [.ref a0] [] M = some r := cd_at (cuts := [5, 8, 11, 14, 18, 22, 26, 30, 34, 38, 42, 46, 50, 54, 58, 62, 65, 68, 71, 75, 76]) (n := 400) (cd_bd10) rfl h
set_option maxRecDepth 1000000 in
set_option maxHeartbeats 8000000 in
theorem cd_q10_8 {a0 : Nat} {M : cd_M} {r : cd_Ret} (h : (if cd_k M a0 = 3 then (cd_go 10 11 [.ref a0] [] (cd_wI M a0 2 0)) else none) = some r) : cd_go 10 8 [.ref a0] [] M = some r := cd_at (cuts := [5, 8, 11, 14, 18, 22, 26, 30, 34, 38, 42, 46, 50, 54, 58, 62, 65, 68, 71, 75, 76]) (n := 400) (cd_bd10) rfl h
set_option maxRecDepth 1000000 in
set_option maxHeartbeats 8000000 in
theorem cd_q10_11 {a0 : Nat} {M : cd_M} {r : cd_Ret} (h : (if cd_k M a0 = 3 then (cd_go 10 14 [.ref a0] [] (cd_wI M a0 3 0)) else none) = some r) : cd_go 10 11 [.ref a0] [] M = some r := cd_at (cuts := [5, 8, 11, 14, 18, 22, 26, 30, 34, 38, 42, 46, 50, 54, 58, 62, 65, 68, 71, 75, 76]) (n := 400) (cd_bd10) rfl h
set_option maxRecDepth 1000000 in
set_option maxHeartbeats 8000000 in
theorem cd_q10_14 {a0 : Nat} {M : cd_M} {r : cd_Ret} (h : (if (8 : Int32) < 0 ∨ 65536 < (8 : Int32) ∨ ¬ M.1.length < 900 then none else if cd_k (cd_new M 20 8) a0 = 3 then (cd_go 10 18 [.ref a0] [] (cd_wR (cd_new M 20 8) a0 4 M.1.length)) else none) = some r) : cd_go 10 14 [.ref a0] [] M = some r := cd_at (cuts := [5, 8, 11, 14, 18, 22, 26, 30, 34, 38, 42, 46, 50, 54, 58, 62, 65, 68, 71, 75, 76]) (n := 400) (cd_bd10) rfl h
set_option maxRecDepth 1000000 in
set_option maxHeartbeats 8000000 in
theorem cd_q10_18 {a0 : Nat} {M : cd_M} {r : cd_Ret} (h : (if (8 : Int32) < 0 ∨ 65536 < (8 : Int32) ∨ ¬ M.1.length < 900 then none else if cd_k (cd_new M 20 8) a0 = 3 then (cd_go 10 22 [.ref a0] [] (cd_wR (cd_new M 20 8) a0 5 M.1.length)) else none) = some r) : cd_go 10 18 [.ref a0] [] M = some r := cd_at (cuts := [5, 8, 11, 14, 18, 22, 26, 30, 34, 38, 42, 46, 50, 54, 58, 62, 65, 68, 71, 75, 76]) (n := 400) (cd_bd10) rfl h
set_option maxRecDepth 1000000 in
set_option maxHeartbeats 8000000 in
theorem cd_q10_22 {a0 : Nat} {M : cd_M} {r : cd_Ret} (h : (if (8 : Int32) < 0 ∨ 65536 < (8 : Int32) ∨ ¬ M.1.length < 900 then none else if cd_k (cd_new M 20 8) a0 = 3 then (cd_go 10 26 [.ref a0] [] (cd_wR (cd_new M 20 8) a0 6 M.1.length)) else none) = some r) : cd_go 10 22 [.ref a0] [] M = some r := cd_at (cuts := [5, 8, 11, 14, 18, 22, 26, 30, 34, 38, 42, 46, 50, 54, 58, 62, 65, 68, 71, 75, 76]) (n := 400) (cd_bd10) rfl h
set_option maxRecDepth 1000000 in
set_option maxHeartbeats 8000000 in
theorem cd_q10_26 {a0 : Nat} {M : cd_M} {r : cd_Ret} (h : (if (8 : Int32) < 0 ∨ 65536 < (8 : Int32) ∨ ¬ M.1.length < 900 then none else if cd_k (cd_new M 20 8) a0 = 3 then (cd_go 10 30 [.ref a0] [] (cd_wR (cd_new M 20 8) a0 7 M.1.length)) else none) = some r) : cd_go 10 26 [.ref a0] [] M = some r := cd_at (cuts := [5, 8, 11, 14, 18, 22, 26, 30, 34, 38, 42, 46, 50, 54, 58, 62, 65, 68, 71, 75, 76]) (n := 400) (cd_bd10) rfl h
set_option maxRecDepth 1000000 in
set_option maxHeartbeats 8000000 in
theorem cd_q10_30 {a0 : Nat} {M : cd_M} {r : cd_Ret} (h : (if (3 : Int32) < 0 ∨ 65536 < (3 : Int32) ∨ ¬ M.1.length < 900 then none else if cd_k (cd_new M 20 3) a0 = 3 then (cd_go 10 34 [.ref a0] [] (cd_wR (cd_new M 20 3) a0 8 M.1.length)) else none) = some r) : cd_go 10 30 [.ref a0] [] M = some r := cd_at (cuts := [5, 8, 11, 14, 18, 22, 26, 30, 34, 38, 42, 46, 50, 54, 58, 62, 65, 68, 71, 75, 76]) (n := 400) (cd_bd10) rfl h
set_option maxRecDepth 1000000 in
set_option maxHeartbeats 8000000 in
theorem cd_q10_34 {a0 : Nat} {M : cd_M} {r : cd_Ret} (h : (if (3 : Int32) < 0 ∨ 65536 < (3 : Int32) ∨ ¬ M.1.length < 900 then none else if cd_k (cd_new M 20 3) a0 = 3 then (cd_go 10 38 [.ref a0] [] (cd_wR (cd_new M 20 3) a0 9 M.1.length)) else none) = some r) : cd_go 10 34 [.ref a0] [] M = some r := cd_at (cuts := [5, 8, 11, 14, 18, 22, 26, 30, 34, 38, 42, 46, 50, 54, 58, 62, 65, 68, 71, 75, 76]) (n := 400) (cd_bd10) rfl h
set_option maxRecDepth 1000000 in
set_option maxHeartbeats 8000000 in
theorem cd_q10_38 {a0 : Nat} {M : cd_M} {r : cd_Ret} (h : (if (3 : Int32) < 0 ∨ 65536 < (3 : Int32) ∨ ¬ M.1.length < 900 then none else if cd_k (cd_new M 20 3) a0 = 3 then (cd_go 10 42 [.ref a0] [] (cd_wR (cd_new M 20 3) a0 10 M.1.length)) else none) = some r) : cd_go 10 38 [.ref a0] [] M = some r := cd_at (cuts := [5, 8, 11, 14, 18, 22, 26, 30, 34, 38, 42, 46, 50, 54, 58, 62, 65, 68, 71, 75, 76]) (n := 400) (cd_bd10) rfl h
set_option maxRecDepth 1000000 in
set_option maxHeartbeats 8000000 in
theorem cd_q10_42 {a0 : Nat} {M : cd_M} {r : cd_Ret} (h : (if (3 : Int32) < 0 ∨ 65536 < (3 : Int32) ∨ ¬ M.1.length < 900 then none else if cd_k (cd_new M 20 3) a0 = 3 then (cd_go 10 46 [.ref a0] [] (cd_wR (cd_new M 20 3) a0 11 M.1.length)) else none) = some r) : cd_go 10 42 [.ref a0] [] M = some r := cd_at (cuts := [5, 8, 11, 14, 18, 22, 26, 30, 34, 38, 42, 46, 50, 54, 58, 62, 65, 68, 71, 75, 76]) (n := 400) (cd_bd10) rfl h
set_option maxRecDepth 1000000 in
set_option maxHeartbeats 8000000 in
theorem cd_q10_46 {a0 : Nat} {M : cd_M} {r : cd_Ret} (h : (if (3 : Int32) < 0 ∨ 65536 < (3 : Int32) ∨ ¬ M.1.length < 900 then none else if cd_k (cd_new M 20 3) a0 = 3 then (cd_go 10 50 [.ref a0] [] (cd_wR (cd_new M 20 3) a0 12 M.1.length)) else none) = some r) : cd_go 10 46 [.ref a0] [] M = some r := cd_at (cuts := [5, 8, 11, 14, 18, 22, 26, 30, 34, 38, 42, 46, 50, 54, 58, 62, 65, 68, 71, 75, 76]) (n := 400) (cd_bd10) rfl h
set_option maxRecDepth 1000000 in
set_option maxHeartbeats 8000000 in
theorem cd_q10_50 {a0 : Nat} {M : cd_M} {r : cd_Ret} (h : (if (3 : Int32) < 0 ∨ 65536 < (3 : Int32) ∨ ¬ M.1.length < 900 then none else if cd_k (cd_new M 21 3) a0 = 3 then (cd_go 10 54 [.ref a0] [] (cd_wR (cd_new M 21 3) a0 13 M.1.length)) else none) = some r) : cd_go 10 50 [.ref a0] [] M = some r := cd_at (cuts := [5, 8, 11, 14, 18, 22, 26, 30, 34, 38, 42, 46, 50, 54, 58, 62, 65, 68, 71, 75, 76]) (n := 400) (cd_bd10) rfl h
set_option maxRecDepth 1000000 in
set_option maxHeartbeats 8000000 in
theorem cd_q10_54 {a0 : Nat} {M : cd_M} {r : cd_Ret} (h : (if (12 : Int32) < 0 ∨ 65536 < (12 : Int32) ∨ ¬ M.1.length < 900 then none else if cd_k (cd_new M 20 12) a0 = 3 then (cd_go 10 58 [.ref a0] [] (cd_wR (cd_new M 20 12) a0 14 M.1.length)) else none) = some r) : cd_go 10 54 [.ref a0] [] M = some r := cd_at (cuts := [5, 8, 11, 14, 18, 22, 26, 30, 34, 38, 42, 46, 50, 54, 58, 62, 65, 68, 71, 75, 76]) (n := 400) (cd_bd10) rfl h
set_option maxRecDepth 1000000 in
set_option maxHeartbeats 8000000 in
theorem cd_q10_58 {a0 : Nat} {M : cd_M} {r : cd_Ret} (h : (if (12 : Int32) < 0 ∨ 65536 < (12 : Int32) ∨ ¬ M.1.length < 900 then none else if cd_k (cd_new M 20 12) a0 = 3 then (cd_go 10 62 [.ref a0] [] (cd_wR (cd_new M 20 12) a0 15 M.1.length)) else none) = some r) : cd_go 10 58 [.ref a0] [] M = some r := cd_at (cuts := [5, 8, 11, 14, 18, 22, 26, 30, 34, 38, 42, 46, 50, 54, 58, 62, 65, 68, 71, 75, 76]) (n := 400) (cd_bd10) rfl h
set_option maxRecDepth 1000000 in
set_option maxHeartbeats 8000000 in
theorem cd_q10_62 {a0 : Nat} {M : cd_M} {r : cd_Ret} (h : (if cd_k M a0 = 3 then (cd_go 10 65 [.ref a0] [] (cd_wI M a0 16 60)) else none) = some r) : cd_go 10 62 [.ref a0] [] M = some r := cd_at (cuts := [5, 8, 11, 14, 18, 22, 26, 30, 34, 38, 42, 46, 50, 54, 58, 62, 65, 68, 71, 75, 76]) (n := 400) (cd_bd10) rfl h
set_option maxRecDepth 1000000 in
set_option maxHeartbeats 8000000 in
theorem cd_q10_65 {a0 : Nat} {M : cd_M} {r : cd_Ret} (h : (if cd_k M a0 = 3 then (cd_go 10 68 [.ref a0] [] (cd_wI M a0 17 10)) else none) = some r) : cd_go 10 65 [.ref a0] [] M = some r := cd_at (cuts := [5, 8, 11, 14, 18, 22, 26, 30, 34, 38, 42, 46, 50, 54, 58, 62, 65, 68, 71, 75, 76]) (n := 400) (cd_bd10) rfl h
set_option maxRecDepth 1000000 in
set_option maxHeartbeats 8000000 in
theorem cd_q10_68 {a0 : Nat} {M : cd_M} {r : cd_Ret} (h : (if cd_k M a0 = 3 then (cd_go 10 71 [.ref a0] [] (cd_wI M a0 18 0)) else none) = some r) : cd_go 10 68 [.ref a0] [] M = some r := cd_at (cuts := [5, 8, 11, 14, 18, 22, 26, 30, 34, 38, 42, 46, 50, 54, 58, 62, 65, 68, 71, 75, 76]) (n := 400) (cd_bd10) rfl h
set_option maxRecDepth 1000000 in
set_option maxHeartbeats 8000000 in
theorem cd_q10_71 {a0 : Nat} {M : cd_M} {r : cd_Ret} (h : (if M.1.length < 900 then (if cd_k (cd_new M 6 5) M.1.length = 6 then ((cd_cv (cd_c 5 [.ref M.1.length] (cd_new M 6 5))).bind fun m1 => cd_go 10 75 [.ref a0] [.ref M.1.length, .ref a0] m1) else none) else none) = some r) : cd_go 10 71 [.ref a0] [] M = some r := cd_at (cuts := [5, 8, 11, 14, 18, 22, 26, 30, 34, 38, 42, 46, 50, 54, 58, 62, 65, 68, 71, 75, 76]) (n := 400) (cd_bd10) rfl h
set_option maxRecDepth 1000000 in
set_option maxHeartbeats 8000000 in
theorem cd_q10_75 {a0 : Nat} {u0 : Nat} {u1 : Nat} {M : cd_M} {r : cd_Ret} (h : (if cd_k M u0 = 3 then (cd_go 10 76 [.ref a0] [] (cd_wR M u0 19 u1)) else none) = some r) : cd_go 10 75 [.ref a0] [.ref u1, .ref u0] M = some r := cd_at (cuts := [5, 8, 11, 14, 18, 22, 26, 30, 34, 38, 42, 46, 50, 54, 58, 62, 65, 68, 71, 75, 76]) (n := 400) (cd_bd10) rfl h
set_option maxRecDepth 1000000 in
set_option maxHeartbeats 8000000 in
theorem cd_q10_76 {a0 : Nat} {M : cd_M} {r : cd_Ret} (h : (some (none, M)) = some r) : cd_go 10 76 [.ref a0] [] M = some r := cd_at (cuts := [5, 8, 11, 14, 18, 22, 26, 30, 34, 38, 42, 46, 50, 54, 58, 62, 65, 68, 71, 75, 76]) (n := 400) (cd_bd10) rfl h
theorem cd_bd11 : cd_body 11 = cd_b11 := rfl
set_option maxRecDepth 1000000 in
set_option maxHeartbeats 8000000 in
theorem cd_q11_0 {a0 : Nat} {M : cd_M} {r : cd_Ret} (h : (if a0 ≠ 0 then (if M.1.length < 900 then (if cd_k (cd_new M 4 9) M.1.length = 4 then ((cd_cv (cd_c 0 [.ref M.1.length] (cd_new M 4 9))).bind fun m1 => cd_go 11 6 [.ref a0] [.ref M.1.length, .ref a0] m1) else none) else none) else none) = some r) : cd_go 11 0 [.ref a0] [] M = some r := cd_at (cuts := [6, 7, 11, 12, 16, 17, 21, 22, 26, 27, 31, 32, 36, 37, 45, 51, 53, 57, 61, 69, 75, 81, 87, 89, 93, 94, 98, 99, 103, 104, 107, 110, 113]) (n := 400) (cd_bd11) rfl h
set_option maxRecDepth 1000000 in
set_option maxHeartbeats 8000000 in
theorem cd_q11_6 {a0 : Nat} {u0 : Nat} {u1 : Nat} {M : cd_M} {r : cd_Ret} (h : (if cd_k M u0 = 10 then (cd_go 11 7 [.ref a0] [] (cd_wR M u0 0 u1)) else none) = some r) : cd_go 11 6 [.ref a0] [.ref u1, .ref u0] M = some r := cd_at (cuts := [6, 7, 11, 12, 16, 17, 21, 22, 26, 27, 31, 32, 36, 37, 45, 51, 53, 57, 61, 69, 75, 81, 87, 89, 93, 94, 98, 99, 103, 104, 107, 110, 113]) (n := 400) (cd_bd11) rfl h
set_option maxRecDepth 1000000 in
set_option maxHeartbeats 8000000 in
theorem cd_q11_7 {a0 : Nat} {M : cd_M} {r : cd_Ret} (h : (if M.1.length < 900 then (if cd_k (cd_new M 5 7) M.1.length = 5 then ((cd_cv (cd_c 4 [.ref M.1.length] (cd_new M 5 7))).bind fun m1 => cd_go 11 11 [.ref a0] [.ref M.1.length, .ref a0] m1) else none) else none) = some r) : cd_go 11 7 [.ref a0] [] M = some r := cd_at (cuts := [6, 7, 11, 12, 16, 17, 21, 22, 26, 27, 31, 32, 36, 37, 45, 51, 53, 57, 61, 69, 75, 81, 87, 89, 93, 94, 98, 99, 103, 104, 107, 110, 113]) (n := 400) (cd_bd11) rfl h
set_option maxRecDepth 1000000 in
set_option maxHeartbeats 8000000 in
theorem cd_q11_11 {a0 : Nat} {u0 : Nat} {u1 : Nat} {M : cd_M} {r : cd_Ret} (h : (if cd_k M u0 = 10 then (cd_go 11 12 [.ref a0] [] (cd_wR M u0 1 u1)) else none) = some r) : cd_go 11 11 [.ref a0] [.ref u1, .ref u0] M = some r := cd_at (cuts := [6, 7, 11, 12, 16, 17, 21, 22, 26, 27, 31, 32, 36, 37, 45, 51, 53, 57, 61, 69, 75, 81, 87, 89, 93, 94, 98, 99, 103, 104, 107, 110, 113]) (n := 400) (cd_bd11) rfl h
set_option maxRecDepth 1000000 in
set_option maxHeartbeats 8000000 in
theorem cd_q11_12 {a0 : Nat} {M : cd_M} {r : cd_Ret} (h : (if M.1.length < 900 then (if cd_k (cd_new M 8 13) M.1.length = 8 then ((cd_cv (cd_c 7 [.ref M.1.length] (cd_new M 8 13))).bind fun m1 => cd_go 11 16 [.ref a0] [.ref M.1.length, .ref a0] m1) else none) else none) = some r) : cd_go 11 12 [.ref a0] [] M = some r := cd_at (cuts := [6, 7, 11, 12, 16, 17, 21, 22, 26, 27, 31, 32, 36, 37, 45, 51, 53, 57, 61, 69, 75, 81, 87, 89, 93, 94, 98, 99, 103, 104, 107, 110, 113]) (n := 400) (cd_bd11) rfl h
set_option maxRecDepth 1000000 in
set_option maxHeartbeats 8000000 in
theorem cd_q11_16 {a0 : Nat} {u0 : Nat} {u1 : Nat} {M : cd_M} {r : cd_Ret} (h : (if cd_k M u0 = 10 then (cd_go 11 17 [.ref a0] [] (cd_wR M u0 2 u1)) else none) = some r) : cd_go 11 16 [.ref a0] [.ref u1, .ref u0] M = some r := cd_at (cuts := [6, 7, 11, 12, 16, 17, 21, 22, 26, 27, 31, 32, 36, 37, 45, 51, 53, 57, 61, 69, 75, 81, 87, 89, 93, 94, 98, 99, 103, 104, 107, 110, 113]) (n := 400) (cd_bd11) rfl h
set_option maxRecDepth 1000000 in
set_option maxHeartbeats 8000000 in
theorem cd_q11_17 {a0 : Nat} {M : cd_M} {r : cd_Ret} (h : (if M.1.length < 900 then (if cd_k (cd_new M 7 7) M.1.length = 7 then ((cd_cv (cd_c 8 [.ref M.1.length] (cd_new M 7 7))).bind fun m1 => cd_go 11 21 [.ref a0] [.ref M.1.length, .ref a0] m1) else none) else none) = some r) : cd_go 11 17 [.ref a0] [] M = some r := cd_at (cuts := [6, 7, 11, 12, 16, 17, 21, 22, 26, 27, 31, 32, 36, 37, 45, 51, 53, 57, 61, 69, 75, 81, 87, 89, 93, 94, 98, 99, 103, 104, 107, 110, 113]) (n := 400) (cd_bd11) rfl h
set_option maxRecDepth 1000000 in
set_option maxHeartbeats 8000000 in
theorem cd_q11_21 {a0 : Nat} {u0 : Nat} {u1 : Nat} {M : cd_M} {r : cd_Ret} (h : (if cd_k M u0 = 10 then (cd_go 11 22 [.ref a0] [] (cd_wR M u0 3 u1)) else none) = some r) : cd_go 11 21 [.ref a0] [.ref u1, .ref u0] M = some r := cd_at (cuts := [6, 7, 11, 12, 16, 17, 21, 22, 26, 27, 31, 32, 36, 37, 45, 51, 53, 57, 61, 69, 75, 81, 87, 89, 93, 94, 98, 99, 103, 104, 107, 110, 113]) (n := 400) (cd_bd11) rfl h
set_option maxRecDepth 1000000 in
set_option maxHeartbeats 8000000 in
theorem cd_q11_22 {a0 : Nat} {M : cd_M} {r : cd_Ret} (h : (if M.1.length < 900 then (if cd_k (cd_new M 1 3) M.1.length = 1 then ((cd_cv (cd_c 1 [.ref M.1.length] (cd_new M 1 3))).bind fun m1 => cd_go 11 26 [.ref a0] [.ref M.1.length, .ref a0] m1) else none) else none) = some r) : cd_go 11 22 [.ref a0] [] M = some r := cd_at (cuts := [6, 7, 11, 12, 16, 17, 21, 22, 26, 27, 31, 32, 36, 37, 45, 51, 53, 57, 61, 69, 75, 81, 87, 89, 93, 94, 98, 99, 103, 104, 107, 110, 113]) (n := 400) (cd_bd11) rfl h
set_option maxRecDepth 1000000 in
set_option maxHeartbeats 8000000 in
theorem cd_q11_26 {a0 : Nat} {u0 : Nat} {u1 : Nat} {M : cd_M} {r : cd_Ret} (h : (if cd_k M u0 = 10 then (cd_go 11 27 [.ref a0] [] (cd_wR M u0 4 u1)) else none) = some r) : cd_go 11 26 [.ref a0] [.ref u1, .ref u0] M = some r := cd_at (cuts := [6, 7, 11, 12, 16, 17, 21, 22, 26, 27, 31, 32, 36, 37, 45, 51, 53, 57, 61, 69, 75, 81, 87, 89, 93, 94, 98, 99, 103, 104, 107, 110, 113]) (n := 400) (cd_bd11) rfl h
set_option maxRecDepth 1000000 in
set_option maxHeartbeats 8000000 in
theorem cd_q11_27 {a0 : Nat} {M : cd_M} {r : cd_Ret} (h : (if M.1.length < 900 then (if cd_k (cd_new M 2 3) M.1.length = 2 then ((cd_cv (cd_c 6 [.ref M.1.length] (cd_new M 2 3))).bind fun m1 => cd_go 11 31 [.ref a0] [.ref M.1.length, .ref a0] m1) else none) else none) = some r) : cd_go 11 27 [.ref a0] [] M = some r := cd_at (cuts := [6, 7, 11, 12, 16, 17, 21, 22, 26, 27, 31, 32, 36, 37, 45, 51, 53, 57, 61, 69, 75, 81, 87, 89, 93, 94, 98, 99, 103, 104, 107, 110, 113]) (n := 400) (cd_bd11) rfl h
set_option maxRecDepth 1000000 in
set_option maxHeartbeats 8000000 in
theorem cd_q11_31 {a0 : Nat} {u0 : Nat} {u1 : Nat} {M : cd_M} {r : cd_Ret} (h : (if cd_k M u0 = 10 then (cd_go 11 32 [.ref a0] [] (cd_wR M u0 5 u1)) else none) = some r) : cd_go 11 31 [.ref a0] [.ref u1, .ref u0] M = some r := cd_at (cuts := [6, 7, 11, 12, 16, 17, 21, 22, 26, 27, 31, 32, 36, 37, 45, 51, 53, 57, 61, 69, 75, 81, 87, 89, 93, 94, 98, 99, 103, 104, 107, 110, 113]) (n := 400) (cd_bd11) rfl h
set_option maxRecDepth 1000000 in
set_option maxHeartbeats 8000000 in
theorem cd_q11_32 {a0 : Nat} {M : cd_M} {r : cd_Ret} (h : (if M.1.length < 900 then (if cd_k (cd_new M 6 5) M.1.length = 6 then ((cd_cv (cd_c 5 [.ref M.1.length] (cd_new M 6 5))).bind fun m1 => cd_go 11 36 [.ref a0] [.ref M.1.length, .ref a0] m1) else none) else none) = some r) : cd_go 11 32 [.ref a0] [] M = some r := cd_at (cuts := [6, 7, 11, 12, 16, 17, 21, 22, 26, 27, 31, 32, 36, 37, 45, 51, 53, 57, 61, 69, 75, 81, 87, 89, 93, 94, 98, 99, 103, 104, 107, 110, 113]) (n := 400) (cd_bd11) rfl h
set_option maxRecDepth 1000000 in
set_option maxHeartbeats 8000000 in
theorem cd_q11_36 {a0 : Nat} {u0 : Nat} {u1 : Nat} {M : cd_M} {r : cd_Ret} (h : (if cd_k M u0 = 10 then (cd_go 11 37 [.ref a0] [] (cd_wR M u0 6 u1)) else none) = some r) : cd_go 11 36 [.ref a0] [.ref u1, .ref u0] M = some r := cd_at (cuts := [6, 7, 11, 12, 16, 17, 21, 22, 26, 27, 31, 32, 36, 37, 45, 51, 53, 57, 61, 69, 75, 81, 87, 89, 93, 94, 98, 99, 103, 104, 107, 110, 113]) (n := 400) (cd_bd11) rfl h
set_option maxRecDepth 1000000 in
set_option maxHeartbeats 8000000 in
theorem cd_q11_37 {a0 : Nat} {M : cd_M} {r : cd_Ret} (h : (if (2 : Int32) < 0 ∨ 65536 < (2 : Int32) ∨ ¬ M.1.length < 900 then none else if (cd_new M 23 2).1.length < 900 then (if cd_k (cd_new (cd_new M 23 2) 6 5) ((cd_new M 23 2).1.length) = 6 then ((cd_cv (cd_c 5 [.ref ((cd_new M 23 2).1.length)] (cd_new (cd_new M 23 2) 6 5))).bind fun m1 => cd_go 11 45 [.ref a0] [.ref ((cd_new M 23 2).1.length), .int 0, .ref M.1.length, .ref M.1.length, .ref a0] m1) else none) else none) = some r) : cd_go 11 37 [.ref a0] [] M = some r := cd_at (cuts := [6, 7, 11, 12, 16, 17, 21, 22, 26, 27, 31, 32, 36, 37, 45, 51, 53, 57, 61, 69, 75, 81, 87, 89, 93, 94, 98, 99, 103, 104, 107, 110, 113]) (n := 400) (cd_bd11) rfl h
set_option maxRecDepth 1000000 in
set_option maxHeartbeats 8000000 in
theorem cd_q11_45 {a0 : Nat} {u0 : Nat} {u1 : Nat} {u2 : Nat} {s3 : Int32} {u4 : Nat} {M : cd_M} {r : cd_Ret} (h : (if cd_k M u2 = 23 ∧ cd_k M u4 = 6 ∧ cd_in s3 (cd_n M u2) = true then (if (cd_wR M u2 s3.toNatClampNeg u4).1.length < 900 then (if cd_k (cd_new (cd_wR M u2 s3.toNatClampNeg u4) 6 5) ((cd_wR M u2 s3.toNatClampNeg u4).1.length) = 6 then ((cd_cv (cd_c 5 [.ref ((cd_wR M u2 s3.toNatClampNeg u4).1.length)] (cd_new (cd_wR M u2 s3.toNatClampNeg u4) 6 5))).bind fun m1 => cd_go 11 51 [.ref a0] [.ref ((cd_wR M u2 s3.toNatClampNeg u4).1.length), .int 1, .ref u1, .ref u1, .ref u0] m1) else none) else none) else none) = some r) : cd_go 11 45 [.ref a0] [.ref u4, .int s3, .ref u2, .ref u1, .ref u0] M = some r := cd_at (cuts := [6, 7, 11, 12, 16, 17, 21, 22, 26, 27, 31, 32, 36, 37, 45, 51, 53, 57, 61, 69, 75, 81, 87, 89, 93, 94, 98, 99, 103, 104, 107, 110, 113]) (n := 400) (cd_bd11) rfl h
set_option maxRecDepth 1000000 in
set_option maxHeartbeats 8000000 in
theorem cd_q11_51 {a0 : Nat} {u0 : Nat} {u1 : Nat} {u2 : Nat} {s3 : Int32} {u4 : Nat} {M : cd_M} {r : cd_Ret} (h : (if cd_k M u2 = 23 ∧ cd_k M u4 = 6 ∧ cd_in s3 (cd_n M u2) = true then (if cd_k M u0 = 10 then (cd_go 11 53 [.ref a0] [] (cd_wR (cd_wR M u2 s3.toNatClampNeg u4) u0 7 u1)) else none) else none) = some r) : cd_go 11 51 [.ref a0] [.ref u4, .int s3, .ref u2, .ref u1, .ref u0] M = some r := cd_at (cuts := [6, 7, 11, 12, 16, 17, 21, 22, 26, 27, 31, 32, 36, 37, 45, 51, 53, 57, 61, 69, 75, 81, 87, 89, 93, 94, 98, 99, 103, 104, 107, 110, 113]) (n := 400) (cd_bd11) rfl h
set_option maxRecDepth 1000000 in
set_option maxHeartbeats 8000000 in
theorem cd_q11_53 {a0 : Nat} {M : cd_M} {r : cd_Ret} (h : (if (2 : Int32) < 0 ∨ 65536 < (2 : Int32) ∨ ¬ M.1.length < 900 then none else if cd_k (cd_new M 22 2) a0 = 10 then (cd_go 11 57 [.ref a0] [] (cd_wR (cd_new M 22 2) a0 8 M.1.length)) else none) = some r) : cd_go 11 53 [.ref a0] [] M = some r := cd_at (cuts := [6, 7, 11, 12, 16, 17, 21, 22, 26, 27, 31, 32, 36, 37, 45, 51, 53, 57, 61, 69, 75, 81, 87, 89, 93, 94, 98, 99, 103, 104, 107, 110, 113]) (n := 400) (cd_bd11) rfl h
set_option maxRecDepth 1000000 in
set_option maxHeartbeats 8000000 in
theorem cd_q11_57 {a0 : Nat} {M : cd_M} {r : cd_Ret} (h : (if (2 : Int32) < 0 ∨ 65536 < (2 : Int32) ∨ ¬ M.1.length < 900 then none else if cd_k (cd_new M 20 2) a0 = 10 then (cd_go 11 61 [.ref a0] [] (cd_wR (cd_new M 20 2) a0 9 M.1.length)) else none) = some r) : cd_go 11 57 [.ref a0] [] M = some r := cd_at (cuts := [6, 7, 11, 12, 16, 17, 21, 22, 26, 27, 31, 32, 36, 37, 45, 51, 53, 57, 61, 69, 75, 81, 87, 89, 93, 94, 98, 99, 103, 104, 107, 110, 113]) (n := 400) (cd_bd11) rfl h
set_option maxRecDepth 1000000 in
set_option maxHeartbeats 8000000 in
theorem cd_q11_61 {a0 : Nat} {M : cd_M} {r : cd_Ret} (h : (if (4 : Int32) < 0 ∨ 65536 < (4 : Int32) ∨ ¬ M.1.length < 900 then none else if (cd_new M 24 4).1.length < 900 then (if cd_k (cd_new (cd_new M 24 4) 9 5) ((cd_new M 24 4).1.length) = 9 then ((cd_cv (cd_c 9 [.ref ((cd_new M 24 4).1.length)] (cd_new (cd_new M 24 4) 9 5))).bind fun m1 => cd_go 11 69 [.ref a0] [.ref ((cd_new M 24 4).1.length), .int 0, .ref M.1.length, .ref M.1.length, .ref a0] m1) else none) else none) = some r) : cd_go 11 61 [.ref a0] [] M = some r := cd_at (cuts := [6, 7, 11, 12, 16, 17, 21, 22, 26, 27, 31, 32, 36, 37, 45, 51, 53, 57, 61, 69, 75, 81, 87, 89, 93, 94, 98, 99, 103, 104, 107, 110, 113]) (n := 400) (cd_bd11) rfl h
set_option maxRecDepth 1000000 in
set_option maxHeartbeats 8000000 in
theorem cd_q11_69 {a0 : Nat} {u0 : Nat} {u1 : Nat} {u2 : Nat} {s3 : Int32} {u4 : Nat} {M : cd_M} {r : cd_Ret} (h : (if cd_k M u2 = 24 ∧ cd_k M u4 = 9 ∧ cd_in s3 (cd_n M u2) = true then (if (cd_wR M u2 s3.toNatClampNeg u4).1.length < 900 then (if cd_k (cd_new (cd_wR M u2 s3.toNatClampNeg u4) 9 5) ((cd_wR M u2 s3.toNatClampNeg u4).1.length) = 9 then ((cd_cv (cd_c 9 [.ref ((cd_wR M u2 s3.toNatClampNeg u4).1.length)] (cd_new (cd_wR M u2 s3.toNatClampNeg u4) 9 5))).bind fun m1 => cd_go 11 75 [.ref a0] [.ref ((cd_wR M u2 s3.toNatClampNeg u4).1.length), .int 1, .ref u1, .ref u1, .ref u0] m1) else none) else none) else none) = some r) : cd_go 11 69 [.ref a0] [.ref u4, .int s3, .ref u2, .ref u1, .ref u0] M = some r := cd_at (cuts := [6, 7, 11, 12, 16, 17, 21, 22, 26, 27, 31, 32, 36, 37, 45, 51, 53, 57, 61, 69, 75, 81, 87, 89, 93, 94, 98, 99, 103, 104, 107, 110, 113]) (n := 400) (cd_bd11) rfl h
set_option maxRecDepth 1000000 in
set_option maxHeartbeats 8000000 in
theorem cd_q11_75 {a0 : Nat} {u0 : Nat} {u1 : Nat} {u2 : Nat} {s3 : Int32} {u4 : Nat} {M : cd_M} {r : cd_Ret} (h : (if cd_k M u2 = 24 ∧ cd_k M u4 = 9 ∧ cd_in s3 (cd_n M u2) = true then (if (cd_wR M u2 s3.toNatClampNeg u4).1.length < 900 then (if cd_k (cd_new (cd_wR M u2 s3.toNatClampNeg u4) 9 5) ((cd_wR M u2 s3.toNatClampNeg u4).1.length) = 9 then ((cd_cv (cd_c 9 [.ref ((cd_wR M u2 s3.toNatClampNeg u4).1.length)] (cd_new (cd_wR M u2 s3.toNatClampNeg u4) 9 5))).bind fun m1 => cd_go 11 81 [.ref a0] [.ref ((cd_wR M u2 s3.toNatClampNeg u4).1.length), .int 2, .ref u1, .ref u1, .ref u0] m1) else none) else none) else none) = some r) : cd_go 11 75 [.ref a0] [.ref u4, .int s3, .ref u2, .ref u1, .ref u0] M = some r := cd_at (cuts := [6, 7, 11, 12, 16, 17, 21, 22, 26, 27, 31, 32, 36, 37, 45, 51, 53, 57, 61, 69, 75, 81, 87, 89, 93, 94, 98, 99, 103, 104, 107, 110, 113]) (n := 400) (cd_bd11) rfl h
set_option maxRecDepth 1000000 in
set_option maxHeartbeats 8000000 in
theorem cd_q11_81 {a0 : Nat} {u0 : Nat} {u1 : Nat} {u2 : Nat} {s3 : Int32} {u4 : Nat} {M : cd_M} {r : cd_Ret} (h : (if cd_k M u2 = 24 ∧ cd_k M u4 = 9 ∧ cd_in s3 (cd_n M u2) = true then (if (cd_wR M u2 s3.toNatClampNeg u4).1.length < 900 then (if cd_k (cd_new (cd_wR M u2 s3.toNatClampNeg u4) 9 5) ((cd_wR M u2 s3.toNatClampNeg u4).1.length) = 9 then ((cd_cv (cd_c 9 [.ref ((cd_wR M u2 s3.toNatClampNeg u4).1.length)] (cd_new (cd_wR M u2 s3.toNatClampNeg u4) 9 5))).bind fun m1 => cd_go 11 87 [.ref a0] [.ref ((cd_wR M u2 s3.toNatClampNeg u4).1.length), .int 3, .ref u1, .ref u1, .ref u0] m1) else none) else none) else none) = some r) : cd_go 11 81 [.ref a0] [.ref u4, .int s3, .ref u2, .ref u1, .ref u0] M = some r := cd_at (cuts := [6, 7, 11, 12, 16, 17, 21, 22, 26, 27, 31, 32, 36, 37, 45, 51, 53, 57, 61, 69, 75, 81, 87, 89, 93, 94, 98, 99, 103, 104, 107, 110, 113]) (n := 400) (cd_bd11) rfl h
set_option maxRecDepth 1000000 in
set_option maxHeartbeats 8000000 in
theorem cd_q11_87 {a0 : Nat} {u0 : Nat} {u1 : Nat} {u2 : Nat} {s3 : Int32} {u4 : Nat} {M : cd_M} {r : cd_Ret} (h : (if cd_k M u2 = 24 ∧ cd_k M u4 = 9 ∧ cd_in s3 (cd_n M u2) = true then (if cd_k M u0 = 10 then (cd_go 11 89 [.ref a0] [] (cd_wR (cd_wR M u2 s3.toNatClampNeg u4) u0 10 u1)) else none) else none) = some r) : cd_go 11 87 [.ref a0] [.ref u4, .int s3, .ref u2, .ref u1, .ref u0] M = some r := cd_at (cuts := [6, 7, 11, 12, 16, 17, 21, 22, 26, 27, 31, 32, 36, 37, 45, 51, 53, 57, 61, 69, 75, 81, 87, 89, 93, 94, 98, 99, 103, 104, 107, 110, 113]) (n := 400) (cd_bd11) rfl h
set_option maxRecDepth 1000000 in
set_option maxHeartbeats 8000000 in
theorem cd_q11_89 {a0 : Nat} {M : cd_M} {r : cd_Ret} (h : (if M.1.length < 900 then (if cd_k (cd_new M 9 5) M.1.length = 9 then ((cd_cv (cd_c 9 [.ref M.1.length] (cd_new M 9 5))).bind fun m1 => cd_go 11 93 [.ref a0] [.ref M.1.length, .ref a0] m1) else none) else none) = some r) : cd_go 11 89 [.ref a0] [] M = some r := cd_at (cuts := [6, 7, 11, 12, 16, 17, 21, 22, 26, 27, 31, 32, 36, 37, 45, 51, 53, 57, 61, 69, 75, 81, 87, 89, 93, 94, 98, 99, 103, 104, 107, 110, 113]) (n := 400) (cd_bd11) rfl h
set_option maxRecDepth 1000000 in
set_option maxHeartbeats 8000000 in
theorem cd_q11_93 {a0 : Nat} {u0 : Nat} {u1 : Nat} {M : cd_M} {r : cd_Ret} (h : (if cd_k M u0 = 10 then (cd_go 11 94 [.ref a0] [] (cd_wR M u0 11 u1)) else none) = some r) : cd_go 11 93 [.ref a0] [.ref u1, .ref u0] M = some r := cd_at (cuts := [6, 7, 11, 12, 16, 17, 21, 22, 26, 27, 31, 32, 36, 37, 45, 51, 53, 57, 61, 69, 75, 81, 87, 89, 93, 94, 98, 99, 103, 104, 107, 110, 113]) (n := 400) (cd_bd11) rfl h
set_option maxRecDepth 1000000 in
set_option maxHeartbeats 8000000 in
theorem cd_q11_94 {a0 : Nat} {M : cd_M} {r : cd_Ret} (h : (if M.1.length < 900 then (if cd_k (cd_new M 3 20) M.1.length = 3 then ((cd_cv (cd_c 10 [.ref M.1.length] (cd_new M 3 20))).bind fun m1 => cd_go 11 98 [.ref a0] [.ref M.1.length, .ref a0] m1) else none) else none) = some r) : cd_go 11 94 [.ref a0] [] M = some r := cd_at (cuts := [6, 7, 11, 12, 16, 17, 21, 22, 26, 27, 31, 32, 36, 37, 45, 51, 53, 57, 61, 69, 75, 81, 87, 89, 93, 94, 98, 99, 103, 104, 107, 110, 113]) (n := 400) (cd_bd11) rfl h
set_option maxRecDepth 1000000 in
set_option maxHeartbeats 8000000 in
theorem cd_q11_98 {a0 : Nat} {u0 : Nat} {u1 : Nat} {M : cd_M} {r : cd_Ret} (h : (if cd_k M u0 = 10 then (cd_go 11 99 [.ref a0] [] (cd_wR M u0 12 u1)) else none) = some r) : cd_go 11 98 [.ref a0] [.ref u1, .ref u0] M = some r := cd_at (cuts := [6, 7, 11, 12, 16, 17, 21, 22, 26, 27, 31, 32, 36, 37, 45, 51, 53, 57, 61, 69, 75, 81, 87, 89, 93, 94, 98, 99, 103, 104, 107, 110, 113]) (n := 400) (cd_bd11) rfl h
set_option maxRecDepth 1000000 in
set_option maxHeartbeats 8000000 in
theorem cd_q11_99 {a0 : Nat} {M : cd_M} {r : cd_Ret} (h : (if M.1.length < 900 then (if cd_k (cd_new M 3 20) M.1.length = 3 then ((cd_cv (cd_c 10 [.ref M.1.length] (cd_new M 3 20))).bind fun m1 => cd_go 11 103 [.ref a0] [.ref M.1.length, .ref a0] m1) else none) else none) = some r) : cd_go 11 99 [.ref a0] [] M = some r := cd_at (cuts := [6, 7, 11, 12, 16, 17, 21, 22, 26, 27, 31, 32, 36, 37, 45, 51, 53, 57, 61, 69, 75, 81, 87, 89, 93, 94, 98, 99, 103, 104, 107, 110, 113]) (n := 400) (cd_bd11) rfl h
set_option maxRecDepth 1000000 in
set_option maxHeartbeats 8000000 in
theorem cd_q11_103 {a0 : Nat} {u0 : Nat} {u1 : Nat} {M : cd_M} {r : cd_Ret} (h : (if cd_k M u0 = 10 then (cd_go 11 104 [.ref a0] [] (cd_wR M u0 13 u1)) else none) = some r) : cd_go 11 103 [.ref a0] [.ref u1, .ref u0] M = some r := cd_at (cuts := [6, 7, 11, 12, 16, 17, 21, 22, 26, 27, 31, 32, 36, 37, 45, 51, 53, 57, 61, 69, 75, 81, 87, 89, 93, 94, 98, 99, 103, 104, 107, 110, 113]) (n := 400) (cd_bd11) rfl h
set_option maxRecDepth 1000000 in
set_option maxHeartbeats 8000000 in
theorem cd_q11_104 {a0 : Nat} {M : cd_M} {r : cd_Ret} (h : (if cd_k M a0 = 10 then (cd_go 11 107 [.ref a0] [] (cd_wI M a0 14 0)) else none) = some r) : cd_go 11 104 [.ref a0] [] M = some r := cd_at (cuts := [6, 7, 11, 12, 16, 17, 21, 22, 26, 27, 31, 32, 36, 37, 45, 51, 53, 57, 61, 69, 75, 81, 87, 89, 93, 94, 98, 99, 103, 104, 107, 110, 113]) (n := 400) (cd_bd11) rfl h
set_option maxRecDepth 1000000 in
set_option maxHeartbeats 8000000 in
theorem cd_q11_107 {a0 : Nat} {M : cd_M} {r : cd_Ret} (h : (if cd_k M a0 = 10 then (cd_go 11 110 [.ref a0] [] (cd_wI M a0 15 (-1))) else none) = some r) : cd_go 11 107 [.ref a0] [] M = some r := cd_at (cuts := [6, 7, 11, 12, 16, 17, 21, 22, 26, 27, 31, 32, 36, 37, 45, 51, 53, 57, 61, 69, 75, 81, 87, 89, 93, 94, 98, 99, 103, 104, 107, 110, 113]) (n := 400) (cd_bd11) rfl h
set_option maxRecDepth 1000000 in
set_option maxHeartbeats 8000000 in
theorem cd_q11_110 {a0 : Nat} {M : cd_M} {r : cd_Ret} (h : (if cd_k M a0 = 10 then (cd_go 11 113 [.ref a0] [] (cd_wI M a0 16 0)) else none) = some r) : cd_go 11 110 [.ref a0] [] M = some r := cd_at (cuts := [6, 7, 11, 12, 16, 17, 21, 22, 26, 27, 31, 32, 36, 37, 45, 51, 53, 57, 61, 69, 75, 81, 87, 89, 93, 94, 98, 99, 103, 104, 107, 110, 113]) (n := 400) (cd_bd11) rfl h
set_option maxRecDepth 1000000 in
set_option maxHeartbeats 8000000 in
theorem cd_q11_113 {a0 : Nat} {M : cd_M} {r : cd_Ret} (h : (some (none, M)) = some r) : cd_go 11 113 [.ref a0] [] M = some r := cd_at (cuts := [6, 7, 11, 12, 16, 17, 21, 22, 26, 27, 31, 32, 36, 37, 45, 51, 53, 57, 61, 69, 75, 81, 87, 89, 93, 94, 98, 99, 103, 104, 107, 110, 113]) (n := 400) (cd_bd11) rfl h
theorem cd_bd12 : cd_body 12 = cd_b12 := rfl
set_option maxRecDepth 1000000 in
set_option maxHeartbeats 8000000 in
theorem cd_q12_0 {a0 : Nat} {x1 : Int32} {M : cd_M} {r : cd_Ret} (h : (if cd_k M a0 = 4 then (if cd_k M a0 = 4 then (if cd_k M (cd_R M a0 0) = 20 then (if (cd_I M a0 1) < (Int32.ofNat (cd_n M (cd_R M a0 0))) then (if cd_k M a0 = 4 then (if cd_k M a0 = 4 then (if cd_k M (cd_R M a0 0) = 20 ∧ cd_in (cd_I M a0 1) (cd_n M (cd_R M a0 0)) = true then (if cd_k M a0 = 4 then (if cd_k M a0 = 4 then (let m1 : cd_M := (cd_wI (cd_wI M (cd_R M a0 0) (cd_I M a0 1).toNatClampNeg x1) a0 1 ((cd_I (cd_wI M (cd_R M a0 0) (cd_I M a0 1).toNatClampNeg x1) a0 1) + 1)); some (none, m1)) else none) else none) else none) else none) else none) else some (none, M)) else none) else none) else none) = some r) : cd_go 12 0 [.ref a0, .int x1] [] M = some r := cd_at (cuts := []) (n := 400) (cd_bd12) rfl h
theorem cd_bd13 : cd_body 13 = cd_b13 := rfl
set_option maxRecDepth 1000000 in
set_option maxHeartbeats 8000000 in
theorem cd_q13_0 {a0 : Nat} {x1 : Int32} {y2 : Int64} {M : cd_M} {r : cd_Ret} (h : (if x1 < 1 then (some (some (.int (-1002)), M)) else if 8 < x1 then (some (some (.int (-1002)), M)) else if cd_k M a0 = 10 then (if cd_k M (cd_R M a0 0) = 4 then (if 500 < ((cd_I M (cd_R M a0 0) 1) + x1) then (some (some (.int (-1004)), M)) else cd_go 13 21 [.ref a0, .int x1, .long y2, .null, .int (x1 - 1)] [] M) else none) else none) = some r) : cd_go 13 0 [.ref a0, .int x1, .long y2, .null, .null] [] M = some r := cd_at (cuts := [21, 34]) (n := 400) (cd_bd13) rfl h
set_option maxRecDepth 1000000 in
set_option maxHeartbeats 8000000 in
theorem cd_q13_21 {a0 : Nat} {x1 : Int32} {y2 : Int64} {x4 : Int32} {M : cd_M} {r : cd_Ret} (h : (if x4 < 0 then (if cd_k M a0 = 10 then (if cd_k M (cd_R M a0 0) = 4 then (some (some (.int (cd_I M (cd_R M a0 0) 1)), M)) else none) else none) else if cd_k M a0 = 10 then (if cd_k M (cd_R M a0 0) = 4 then ((cd_cv (cd_c 12 [.ref (cd_R M a0 0), .int ((((y2.toUInt64 >>> (((8 : Int32) * x4).toInt64.toUInt64 &&& Int64.toUInt64 63)).toInt64).toInt32) &&& 255)] M)).bind fun m1 => cd_go 13 34 [.ref a0, .int x1, .long y2, .null, .int x4] [] m1) else none) else none) = some r) : cd_go 13 21 [.ref a0, .int x1, .long y2, .null, .int x4] [] M = some r := cd_at (cuts := [21, 34]) (n := 400) (cd_bd13) rfl h
set_option maxRecDepth 1000000 in
set_option maxHeartbeats 8000000 in
theorem cd_q13_34 {a0 : Nat} {x1 : Int32} {y2 : Int64} {x4 : Int32} {M : cd_M} {r : cd_Ret} (h : (cd_go 13 21 [.ref a0, .int x1, .long y2, .null, .int (x4 + (-1))] [] M) = some r) : cd_go 13 34 [.ref a0, .int x1, .long y2, .null, .int x4] [] M = some r := cd_at (cuts := [21, 34]) (n := 400) (cd_bd13) rfl h
theorem cd_bd14 : cd_body 14 = cd_b14 := rfl
set_option maxRecDepth 1000000 in
set_option maxHeartbeats 8000000 in
theorem cd_q14_0 {x0 : Int32} {M : cd_M} {r : cd_Ret} (h : (if x0 < 97 then (some (some (.int 0), M)) else if 122 < x0 then (some (some (.int 0), M)) else some (some (.int 1), M)) = some r) : cd_go 14 0 [.int x0] [] M = some r := cd_at (cuts := []) (n := 400) (cd_bd14) rfl h
theorem cd_bd15 : cd_body 15 = cd_b15 := rfl
set_option maxRecDepth 1000000 in
set_option maxHeartbeats 8000000 in
theorem cd_q15_0 {x0 : Int32} {M : cd_M} {r : cd_Ret} (h : (if x0 < 48 then (some (some (.int 0), M)) else if 57 < x0 then (some (some (.int 0), M)) else some (some (.int 1), M)) = some r) : cd_go 15 0 [.int x0] [] M = some r := cd_at (cuts := []) (n := 400) (cd_bd15) rfl h
theorem cd_bd16 : cd_body 16 = cd_b16 := rfl
set_option maxRecDepth 1000000 in
set_option maxHeartbeats 8000000 in
theorem cd_q16_0 {a0 : Nat} {M : cd_M} {r : cd_Ret} (h : (if cd_k M a0 = 4 then (if cd_k M a0 = 4 then (if (cd_I M a0 2) < (cd_I M a0 1) then (if cd_k M a0 = 4 then (if cd_k M a0 = 4 then (if cd_k M (cd_R M a0 0) = 20 ∧ cd_in (cd_I M a0 2) (cd_n M (cd_R M a0 0)) = true then (if (cd_I M (cd_R M a0 0) (cd_I M a0 2).toNatClampNeg) = 32 then (if cd_k M a0 = 4 then (if cd_k M a0 = 4 then (cd_go 16 0 [.ref a0] [] (cd_wI M a0 2 ((cd_I M a0 2) + 1))) else none) else none) else cd_go 16 19 [.ref a0] [] M) else none) else none) else none) else cd_go 16 19 [.ref a0] [] M) else none) else none) = some r) : cd_go 16 0 [.ref a0] [] M = some r := cd_at (cuts := [0, 19, 41, 45, 56, 70, 74, 85]) (n := 400) (cd_bd16) rfl h
set_option maxRecDepth 1000000 in
set_option maxHeartbeats 8000000 in
theorem cd_q16_19 {a0 : Nat} {M : cd_M} {r : cd_Ret} (h : (if cd_k M a0 = 4 then (if cd_k M a0 = 4 then (if cd_k M a0 = 4 then (if cd_k M a0 = 4 then (if cd_k M a0 = 4 then (if (cd_I (cd_wI (cd_wI M a0 4 (cd_I M a0 2)) a0 5 0) a0 2) < (cd_I (cd_wI (cd_wI M a0 4 (cd_I M a0 2)) a0 5 0) a0 1) then (if cd_k M a0 = 4 then (if cd_k M a0 = 4 then (if cd_k M (cd_R (cd_wI (cd_wI M a0 4 (cd_I M a0 2)) a0 5 0) a0 0) = 20 ∧ cd_in (cd_I (cd_wI (cd_wI M a0 4 (cd_I M a0 2)) a0 5 0) a0 2) (cd_n M (cd_R (cd_wI (cd_wI M a0 4 (cd_I M a0 2)) a0 5 0) a0 0)) = true then ((cd_ci (cd_c 14 [.int (cd_I (cd_wI (cd_wI M a0 4 (cd_I M a0 2)) a0 5 0) (cd_R (cd_wI (cd_wI M a0 4 (cd_I M a0 2)) a0 5 0) a0 0) (cd_I (cd_wI (cd_wI M a0 4 (cd_I M a0 2)) a0 5 0) a0 2).toNatClampNeg)] (cd_wI (cd_wI M a0 4 (cd_I M a0 2)) a0 5 0))).bind fun q1 => cd_go 16 41 [.ref a0] [.int q1.1] q1.2) else none) else none) else none) else if cd_k M a0 = 4 then (some (none, (cd_wI (cd_wI (cd_wI M a0 4 (cd_I M a0 2)) a0 5 0) a0 3 0))) else none) else none) else none) else none) else none) else none) = some r) : cd_go 16 19 [.ref a0] [] M = some r := cd_at (cuts := [0, 19, 41, 45, 56, 70, 74, 85]) (n := 400) (cd_bd16) rfl h
set_option maxRecDepth 1000000 in
set_option maxHeartbeats 8000000 in
theorem cd_q16_41 {a0 : Nat} {s0 : Int32} {M : cd_M} {r : cd_Ret} (h : (if s0 = 0 then (if cd_k M a0 = 4 then (if cd_k M a0 = 4 then (if cd_k M (cd_R M a0 0) = 20 ∧ cd_in (cd_I M a0 2) (cd_n M (cd_R M a0 0)) = true then ((cd_ci (cd_c 15 [.int (cd_I M (cd_R M a0 0) (cd_I M a0 2).toNatClampNeg)] M)).bind fun q1 => cd_go 16 70 [.ref a0] [.int q1.1] q1.2) else none) else none) else none) else if cd_k M a0 = 4 then (cd_go 16 45 [.ref a0] [] (cd_wI M a0 3 1)) else none) = some r) : cd_go 16 41 [.ref a0] [.int s0] M = some r := cd_at (cuts := [0, 19, 41, 45, 56, 70, 74, 85]) (n := 400) (cd_bd16) rfl h
set_option maxRecDepth 1000000 in
set_option maxHeartbeats 8000000 in
theorem cd_q16_45 {a0 : Nat} {M : cd_M} {r : cd_Ret} (h : (if cd_k M a0 = 4 then (if cd_k M a0 = 4 then (if (cd_I M a0 2) < (cd_I M a0 1) then (if cd_k M a0 = 4 then (if cd_k M a0 = 4 then (if cd_k M (cd_R M a0 0) = 20 ∧ cd_in (cd_I M a0 2) (cd_n M (cd_R M a0 0)) = true then ((cd_ci (cd_c 14 [.int (cd_I M (cd_R M a0 0) (cd_I M a0 2).toNatClampNeg)] M)).bind fun q1 => cd_go 16 56 [.ref a0] [.int q1.1] q1.2) else none) else none) else none) else some (none, M)) else none) else none) = some r) : cd_go 16 45 [.ref a0] [] M = some r := cd_at (cuts := [0, 19, 41, 45, 56, 70, 74, 85]) (n := 400) (cd_bd16) rfl h
set_option maxRecDepth 1000000 in
set_option maxHeartbeats 8000000 in
theorem cd_q16_56 {a0 : Nat} {s0 : Int32} {M : cd_M} {r : cd_Ret} (h : (if s0 = 0 then (some (none, M)) else if cd_k M a0 = 4 then (if cd_k M a0 = 4 then (cd_go 16 45 [.ref a0] [] (cd_wI M a0 2 ((cd_I M a0 2) + 1))) else none) else none) = some r) : cd_go 16 56 [.ref a0] [.int s0] M = some r := cd_at (cuts := [0, 19, 41, 45, 56, 70, 74, 85]) (n := 400) (cd_bd16) rfl h
set_option maxRecDepth 1000000 in
set_option maxHeartbeats 8000000 in
theorem cd_q16_70 {a0 : Nat} {s0 : Int32} {M : cd_M} {r : cd_Ret} (h : (if s0 = 0 then (if cd_k M a0 = 4 then (if cd_k M a0 = 4 then (if cd_k M a0 = 4 then (some (none, (cd_wI (cd_wI M a0 3 3) a0 2 ((cd_I (cd_wI M a0 3 3) a0 2) + 1)))) else none) else none) else none) else if cd_k M a0 = 4 then (cd_go 16 74 [.ref a0] [] (cd_wI M a0 3 2)) else none) = some r) : cd_go 16 70 [.ref a0] [.int s0] M = some r := cd_at (cuts := [0, 19, 41, 45, 56, 70, 74, 85]) (n := 400) (cd_bd16) rfl h
set_option maxRecDepth 1000000 in
set_option maxHeartbeats 8000000 in
theorem cd_q16_74 {a0 : Nat} {M : cd_M} {r : cd_Ret} (h : (if cd_k M a0 = 4 then (if cd_k M a0 = 4 then (if (cd_I M a0 2) < (cd_I M a0 1) then (if cd_k M a0 = 4 then (if cd_k M a0 = 4 then (if cd_k M (cd_R M a0 0) = 20 ∧ cd_in (cd_I M a0 2) (cd_n M (cd_R M a0 0)) = true then ((cd_ci (cd_c 15 [.int (cd_I M (cd_R M a0 0) (cd_I M a0 2).toNatClampNeg)] M)).bind fun q1 => cd_go 16 85 [.ref a0] [.int q1.1] q1.2) else none) else none) else none) else some (none, M)) else none) else none) = some r) : cd_go 16 74 [.ref a0] [] M = some r := cd_at (cuts := [0, 19, 41, 45, 56, 70, 74, 85]) (n := 400) (cd_bd16) rfl h
set_option maxRecDepth 1000000 in
set_option maxHeartbeats 8000000 in
theorem cd_q16_85 {a0 : Nat} {s0 : Int32} {M : cd_M} {r : cd_Ret} (h : (if s0 = 0 then (some (none, M)) else if cd_k M a0 = 4 then (if cd_k M a0 = 4 then (if cd_k M a0 = 4 then (if cd_k M (cd_R M a0 0) = 20 ∧ cd_in (cd_I M a0 2) (cd_n M (cd_R M a0 0)) = true then (if cd_k M a0 = 4 then (let m1 : cd_M := (cd_wI M a0 5 (if ((((cd_I M a0 5) * 10) + (cd_I M (cd_R M a0 0) (cd_I M a0 2).toNatClampNeg)) - 48) < (999 : Int32) then ((((cd_I M a0 5) * 10) + (cd_I M (cd_R M a0 0) (cd_I M a0 2).toNatClampNeg)) - 48) else (999 : Int32))); if cd_k M a0 = 4 then (if cd_k M a0 = 4 then (cd_go 16 74 [.ref a0] [] (cd_wI m1 a0 2 ((cd_I m1 a0 2) + 1))) else none) else none) else none) else none) else none) else none) else none) = some r) : cd_go 16 85 [.ref a0] [.int s0] M = some r := cd_at (cuts := [0, 19, 41, 45, 56, 70, 74, 85]) (n := 400) (cd_bd16) rfl h
theorem cd_bd17 : cd_body 17 = cd_b17 := rfl
set_option maxRecDepth 1000000 in
set_option maxHeartbeats 8000000 in
theorem cd_q17_0 {a0 : Nat} {M : cd_M} {r : cd_Ret} (h : (if cd_k M a0 = 4 then (if cd_k M a0 = 4 then (if cd_k M a0 = 4 then (if cd_k M a0 = 4 then ((cd_cv (cd_c 16 [.ref a0] (cd_wI (cd_wI (cd_wI M a0 2 0) a0 7 0) a0 8 (-1)))).bind fun m1 => cd_go 17 11 [.ref a0] [] m1) else none) else none) else none) else none) = some r) : cd_go 17 0 [.ref a0] [] M = some r := cd_at (cuts := [11]) (n := 400) (cd_bd17) rfl h
set_option maxRecDepth 1000000 in
set_option maxHeartbeats 8000000 in
theorem cd_q17_11 {a0 : Nat} {M : cd_M} {r : cd_Ret} (h : (some (none, M)) = some r) : cd_go 17 11 [.ref a0] [] M = some r := cd_at (cuts := [11]) (n := 400) (cd_bd17) rfl h
theorem cd_bd18 : cd_body 18 = cd_b18 := rfl
set_option maxRecDepth 1000000 in
set_option maxHeartbeats 8000000 in
theorem cd_q18_0 {a0 : Nat} {M : cd_M} {r : cd_Ret} (h : (if cd_k M a0 = 3 then (if cd_k M a0 = 3 then (if cd_k M a0 = 3 then (if cd_k M a0 = 3 then (if cd_k M a0 = 3 then (if cd_k M a0 = 3 then (let m1 : cd_M := (cd_wI (cd_wI (cd_wI (cd_wI (cd_wI (cd_wI M a0 0 0) a0 1 0) a0 2 0) a0 3 0) a0 16 60) a0 17 10); if cd_k M a0 = 3 then (if cd_k M a0 = 3 then (if cd_k M (cd_R (cd_wI m1 a0 18 0) a0 19) = 6 then (if cd_k M a0 = 3 then (if cd_k M (cd_R (cd_wI (cd_wI m1 a0 18 0) (cd_R (cd_wI m1 a0 18 0) a0 19) 1 0) a0 19) = 6 then (let m2 : cd_M := (cd_wI (cd_wI (cd_wI m1 a0 18 0) (cd_R (cd_wI m1 a0 18 0) a0 19) 1 0) (cd_R (cd_wI (cd_wI m1 a0 18 0) (cd_R (cd_wI m1 a0 18 0) a0 19) 1 0) a0 19) 2 0); some (none, m2)) else none) else none) else none) else none) else none) else none) else none) else none) else none) else none) else none) = some r) : cd_go 18 0 [.ref a0] [] M = some r := cd_at (cuts := []) (n := 400) (cd_bd18) rfl h
theorem cd_bd19 : cd_body 19 = cd_b19 := rfl
set_option maxRecDepth 1000000 in
set_option maxHeartbeats 8000000 in
theorem cd_q19_0 {a0 : Nat} {M : cd_M} {r : cd_Ret} (h : (if cd_k M a0 = 4 then (if (cd_I M a0 7) = 0 then (if cd_k M a0 = 4 then (if (cd_I M a0 3) = 0 then (some (some (.int 0), M)) else some (some (.int 1), M)) else none) else some (some (.int 0), M)) else none) = some r) : cd_go 19 0 [.ref a0] [] M = some r := cd_at (cuts := []) (n := 400) (cd_bd19) rfl h
theorem cd_bd20 : cd_body 20 = cd_b20 := rfl
set_option maxRecDepth 1000000 in
set_option maxHeartbeats 8000000 in
theorem cd_q20_0 {a0 : Nat} {a1 : Nat} {M : cd_M} {r : cd_Ret} (h : (if cd_k M a0 = 4 then (if (cd_I M a0 3) = 1 then (if cd_k M a0 = 4 then (if cd_k M a0 = 4 then (if 1000 ≤ a1 ∧ a1 < 1015 then (if ((cd_I M a0 2) - (cd_I M a0 4)) = (Int32.ofNat (cd_str a1).length) then (cd_go 20 16 [.ref a0, .ref a1, .int 0] [] M) else some (some (.int 0), M)) else none) else none) else none) else some (some (.int 0), M)) else none) = some r) : cd_go 20 0 [.ref a0, .ref a1, .null] [] M = some r := cd_at (cuts := [16]) (n := 400) (cd_bd20) rfl h
set_option maxRecDepth 1000000 in
set_option maxHeartbeats 8000000 in
theorem cd_q20_16 {a0 : Nat} {a1 : Nat} {x2 : Int32} {M : cd_M} {r : cd_Ret} (h : (if 1000 ≤ a1 ∧ a1 < 1015 then (if x2 < (Int32.ofNat (cd_str a1).length) then (if cd_k M a0 = 4 then (if cd_k M a0 = 4 then (if cd_k M (cd_R M a0 0) = 20 ∧ cd_in ((cd_I M a0 4) + x2) (cd_n M (cd_R M a0 0)) = true then (if 1000 ≤ a1 ∧ a1 < 1015 ∧ cd_in x2 (cd_str a1).length = true then (if (cd_I M (cd_R M a0 0) ((cd_I M a0 4) + x2).toNatClampNeg) = (Int32.ofNat ((cd_str a1).getD x2.toNatClampNeg 0)) then (cd_go 20 16 [.ref a0, .ref a1, .int (x2 + 1)] [] M) else some (some (.int 0), M)) else none) else none) else none) else none) else some (some (.int 1), M)) else none) = some r) : cd_go 20 16 [.ref a0, .ref a1, .int x2] [] M = some r := cd_at (cuts := [16]) (n := 400) (cd_bd20) rfl h
theorem cd_bd21 : cd_body 21 = cd_b21 := rfl
set_option maxRecDepth 1000000 in
set_option maxHeartbeats 8000000 in
theorem cd_q21_0 {a0 : Nat} {a1 : Nat} {M : cd_M} {r : cd_Ret} (h : (if cd_k M a0 = 4 then (if (cd_I M a0 7) = 0 then (if cd_k M a0 = 4 then ((cd_ci (cd_c 20 [.ref a0, .ref a1] M)).bind fun q1 => cd_go 21 6 [.ref a0, .ref a1] [.int q1.1] q1.2) else none) else some (some (.int 0), M)) else none) = some r) : cd_go 21 0 [.ref a0, .ref a1] [] M = some r := cd_at (cuts := [6, 11]) (n := 400) (cd_bd21) rfl h
set_option maxRecDepth 1000000 in
set_option maxHeartbeats 8000000 in
theorem cd_q21_6 {a0 : Nat} {a1 : Nat} {s0 : Int32} {M : cd_M} {r : cd_Ret} (h : (if s0 = 0 then (some (some (.int 0), M)) else if cd_k M a0 = 4 then ((cd_cv (cd_c 16 [.ref a0] M)).bind fun m1 => cd_go 21 11 [.ref a0, .ref a1] [] m1) else none) = some r) : cd_go 21 6 [.ref a0, .ref a1] [.int s0] M = some r := cd_at (cuts := [6, 11]) (n := 400) (cd_bd21) rfl h
set_option maxRecDepth 1000000 in
set_option maxHeartbeats 8000000 in
theorem cd_q21_11 {a0 : Nat} {a1 : Nat} {M : cd_M} {r : cd_Ret} (h : (some (some (.int 1), M)) = some r) : cd_go 21 11 [.ref a0, .ref a1] [] M = some r := cd_at (cuts := [6, 11]) (n := 400) (cd_bd21) rfl h
theorem cd_bd22 : cd_body 22 = cd_b22 := rfl
set_option maxRecDepth 1000000 in
set_option maxHeartbeats 8000000 in
theorem cd_q22_0 {a0 : Nat} {x1 : Int32} {x2 : Int32} {M : cd_M} {r : cd_Ret} (h : (if cd_k M a0 = 4 then (if (cd_I M a0 7) = 0 then (if cd_k M a0 = 4 then (if cd_k M a0 = 4 then (some (none, (cd_wI (cd_wI M a0 7 x1) a0 8 x2))) else none) else none) else some (none, M)) else none) = some r) : cd_go 22 0 [.ref a0, .int x1, .int x2] [] M = some r := cd_at (cuts := []) (n := 400) (cd_bd22) rfl h
theorem cd_bd23 : cd_body 23 = cd_b23 := rfl
set_option maxRecDepth 1000000 in
set_option maxHeartbeats 8000000 in
theorem cd_q23_0 {a0 : Nat} {x1 : Int32} {x2 : Int32} {M : cd_M} {r : cd_Ret} (h : (if cd_k M a0 = 4 then (if (cd_I M a0 7) = 0 then (if cd_k M a0 = 4 then (if cd_k M a0 = 4 then (if cd_k M a0 = 4 then (if (cd_I (cd_wI M a0 6 (cd_I M a0 4)) a0 3) = 2 then (if cd_k M a0 = 4 then (if cd_k M a0 = 4 then (if 2 < ((cd_I (cd_wI M a0 6 (cd_I M a0 4)) a0 2) - (cd_I (cd_wI M a0 6 (cd_I M a0 4)) a0 4)) then (if cd_k M a0 = 4 then (if cd_k M a0 = 4 then ((cd_cv (cd_c 22 [.ref a0, .int 2, .int (cd_I (cd_wI M a0 6 (cd_I M a0 4)) a0 4)] (cd_wI M a0 6 (cd_I M a0 4)))).bind fun m1 => cd_go 23 40 [.ref a0, .int x1, .int x2, .null] [] m1) else none) else none) else if cd_k M a0 = 4 then (if (cd_I (cd_wI M a0 6 (cd_I M a0 4)) a0 5) < x1 then (if cd_k M a0 = 4 then (if cd_k M a0 = 4 then ((cd_cv (cd_c 22 [.ref a0, .int 2, .int (cd_I (cd_wI M a0 6 (cd_I M a0 4)) a0 4)] (cd_wI M a0 6 (cd_I M a0 4)))).bind fun m2 => cd_go 23 40 [.ref a0, .int x1, .int x2, .null] [] m2) else none) else none) else if cd_k M a0 = 4 then (if x2 < (cd_I (cd_wI M a0 6 (cd_I M a0 4)) a0 5) then (if cd_k M a0 = 4 then (if cd_k M a0 = 4 then ((cd_cv (cd_c 22 [.ref a0, .int 2, .int (cd_I (cd_wI M a0 6 (cd_I M a0 4)) a0 4)] (cd_wI M a0 6 (cd_I M a0 4)))).bind fun m3 => cd_go 23 40 [.ref a0, .int x1, .int x2, .null] [] m3) else none) else none) else if cd_k M a0 = 4 then (if cd_k M a0 = 4 then ((cd_cv (cd_c 16 [.ref a0] (cd_wI M a0 6 (cd_I M a0 4)))).bind fun m4 => cd_go 23 47 [.ref a0, .int x1, .int x2, .int (cd_I (cd_wI M a0 6 (cd_I M a0 4)) a0 5)] [] m4) else none) else none) else none) else none) else none) else none) else if cd_k M a0 = 4 then (if cd_k M a0 = 4 then ((cd_cv (cd_c 22 [.ref a0, .int 1, .int (cd_I (cd_wI M a0 6 (cd_I M a0 4)) a0 4)] (cd_wI M a0 6 (cd_I M a0 4)))).bind fun m5 => cd_go 23 18 [.ref a0, .int x1, .int x2, .null] [] m5) else none) else none) else none) else none) else none) else some (some (.int x1), M)) else none) = some r) : cd_go 23 0 [.ref a0, .int x1, .int x2, .null] [] M = some r := cd_at (cuts := [18, 40, 47]) (n := 400) (cd_bd23) rfl h
set_option maxRecDepth 1000000 in
set_option maxHeartbeats 8000000 in
theorem cd_q23_18 {a0 : Nat} {x1 : Int32} {x2 : Int32} {M : cd_M} {r : cd_Ret} (h : (some (some (.int x1), M)) = some r) : cd_go 23 18 [.ref a0, .int x1, .int x2, .null] [] M = some r := cd_at (cuts := [18, 40, 47]) (n := 400) (cd_bd23) rfl h
set_option maxRecDepth 1000000 in
set_option maxHeartbeats 8000000 in
theorem cd_q23_40 {a0 : Nat} {x1 : Int32} {x2 : Int32} {M : cd_M} {r : cd_Ret} (h : (some (some (.int x1), M)) = some r) : cd_go 23 40 [.ref a0, .int x1, .int x2, .null] [] M = some r := cd_at (cuts := [18, 40, 47]) (n := 400) (cd_bd23) rfl h
set_option maxRecDepth 1000000 in
set_option maxHeartbeats 8000000 in
theorem cd_q23_47 {a0 : Nat} {x1 : Int32} {x2 : Int32} {x3 : Int32} {M : cd_M} {r : cd_Ret} (h : (some (some (.int x3), M)) = some r) : cd_go 23 47 [.ref a0, .int x1, .int x2, .int x3] [] M = some r := cd_at (cuts := [18, 40, 47]) (n := 400) (cd_bd23) rfl h
theorem cd_bd24 : cd_body 24 = cd_b24 := rfl
set_option maxRecDepth 1000000 in
set_option maxHeartbeats 8000000 in
theorem cd_q24_0 {a0 : Nat} {x1 : Int32} {M : cd_M} {r : cd_Ret} (h : (cd_go 24 4 [.ref a0, .int x1, .long 0, .null, .int 0] [] M) = some r) : cd_go 24 0 [.ref a0, .int x1, .null, .null, .null] [] M = some r := cd_at (cuts := [4]) (n := 400) (cd_bd24) rfl h
set_option maxRecDepth 1000000 in
set_option maxHeartbeats 8000000 in
theorem cd_q24_4 {a0 : Nat} {x1 : Int32} {y2 : Int64} {x4 : Int32} {M : cd_M} {r : cd_Ret} (h : (if x4 < x1 then (if cd_k M a0 = 6 then (if cd_k M (cd_R M a0 0) = 20 ∧ cd_in x4 (cd_n M (cd_R M a0 0)) = true then (cd_go 24 4 [.ref a0, .int x1, .long (y2 ||| ((1 : Int64) <<< ((cd_I M (cd_R M a0 0) x4.toNatClampNeg).toInt64 &&& 63))), .null, .int (x4 + 1)] [] M) else none) else none) else some (some (.long y2), M)) = some r) : cd_go 24 4 [.ref a0, .int x1, .long y2, .null, .int x4] [] M = some r := cd_at (cuts := [4]) (n := 400) (cd_bd24) rfl h
theorem cd_bd25 : cd_body 25 = cd_b25 := rfl
set_option maxRecDepth 1000000 in
set_option maxHeartbeats 8000000 in
theorem cd_q25_0 {a0 : Nat} {a1 : Nat} {x2 : Int32} {M : cd_M} {r : cd_Ret} (h : (if cd_k M a0 = 3 then (if (cd_I M a0 0) < 8 then (if cd_k M a1 = 4 then ((cd_ci (cd_c 23 [.ref a1, .int 0, .int 63] M)).bind fun q1 => cd_go 25 15 [.ref a0, .ref a1, .int x2, .int (cd_I M a0 0), .null] [.int q1.1] q1.2) else none) else if cd_k M a1 = 4 then ((cd_cv (cd_c 22 [.ref a1, .int 4, .int x2] M)).bind fun m2 => cd_go 25 10 [.ref a0, .ref a1, .int x2, .int (cd_I M a0 0), .null] [] m2) else none) else none) = some r) : cd_go 25 0 [.ref a0, .ref a1, .int x2, .null, .null] [] M = some r := cd_at (cuts := [10, 15, 20, 32, 45, 53, 61, 69]) (n := 400) (cd_bd25) rfl h
set_option maxRecDepth 1000000 in
set_option maxHeartbeats 8000000 in
theorem cd_q25_10 {a0 : Nat} {a1 : Nat} {x2 : Int32} {x3 : Int32} {M : cd_M} {r : cd_Ret} (h : (some (none, M)) = some r) : cd_go 25 10 [.ref a0, .ref a1, .int x2, .int x3, .null] [] M = some r := cd_at (cuts := [10, 15, 20, 32, 45, 53, 61, 69]) (n := 400) (cd_bd25) rfl h
set_option maxRecDepth 1000000 in
set_option maxHeartbeats 8000000 in
theorem cd_q25_15 {a0 : Nat} {a1 : Nat} {x2 : Int32} {x3 : Int32} {s0 : Int32} {M : cd_M} {r : cd_Ret} (h : (if cd_k M a0 = 3 then (if cd_k M (cd_R M a0 19) = 6 then ((cd_cl (cd_c 24 [.ref (cd_R M a0 19), .int x3] M)).bind fun q1 => cd_go 25 20 [.ref a0, .ref a1, .int x2, .int x3, .int s0] [.long q1.1] q1.2) else none) else none) = some r) : cd_go 25 15 [.ref a0, .ref a1, .int x2, .int x3, .null] [.int s0] M = some r := cd_at (cuts := [10, 15, 20, 32, 45, 53, 61, 69]) (n := 400) (cd_bd25) rfl h
set_option maxRecDepth 1000000 in
set_option maxHeartbeats 8000000 in
theorem cd_q25_20 {a0 : Nat} {a1 : Nat} {x2 : Int32} {x3 : Int32} {x4 : Int32} {t0 : Int64} {M : cd_M} {r : cd_Ret} (h : (if (lg_cmp (((t0.toUInt64 >>> (x4.toInt64.toUInt64 &&& Int64.toUInt64 63)).toInt64) &&& 1) 0) = 0 then (cd_go 25 32 [.ref a0, .ref a1, .int x2, .int x3, .int x4] [] M) else if cd_k M a1 = 4 then (if cd_k M a1 = 4 then ((cd_cv (cd_c 22 [.ref a1, .int 3, .int (cd_I M a1 6)] M)).bind fun m1 => cd_go 25 32 [.ref a0, .ref a1, .int x2, .int x3, .int x4] [] m1) else none) else none) = some r) : cd_go 25 20 [.ref a0, .ref a1, .int x2, .int x3, .int x4] [.long t0] M = some r := cd_at (cuts := [10, 15, 20, 32, 45, 53, 61, 69]) (n := 400) (cd_bd25) rfl h
set_option maxRecDepth 1000000 in
set_option maxHeartbeats 8000000 in
theorem cd_q25_32 {a0 : Nat} {a1 : Nat} {x2 : Int32} {x3 : Int32} {x4 : Int32} {M : cd_M} {r : cd_Ret} (h : (if cd_k M a0 = 3 then (if cd_k M (cd_R M a0 19) = 6 then (if cd_k M (cd_R M (cd_R M a0 19) 0) = 20 ∧ cd_in x3 (cd_n M (cd_R M (cd_R M a0 19) 0)) = true then (if cd_k M a0 = 3 then (if cd_k M a1 = 4 then ((cd_ci (cd_c 23 [.ref a1, .int 1, .int 20] (cd_wI M (cd_R M (cd_R M a0 19) 0) x3.toNatClampNeg x4))).bind fun q1 => cd_go 25 45 [.ref a0, .ref a1, .int x2, .int x3, .int x4] [.int q1.1, .int x3, .ref (cd_R (cd_wI M (cd_R M (cd_R M a0 19) 0) x3.toNatClampNeg x4) a0 4)] q1.2) else none) else none) else none) else none) else none) = some r) : cd_go 25 32 [.ref a0, .ref a1, .int x2, .int x3, .int x4] [] M = some r := cd_at (cuts := [10, 15, 20, 32, 45, 53, 61, 69]) (n := 400) (cd_bd25) rfl h
set_option maxRecDepth 1000000 in
set_option maxHeartbeats 8000000 in
theorem cd_q25_45 {a0 : Nat} {a1 : Nat} {x2 : Int32} {x3 : Int32} {x4 : Int32} {u0 : Nat} {s1 : Int32} {s2 : Int32} {M : cd_M} {r : cd_Ret} (h : (if cd_k M u0 = 20 ∧ cd_in s1 (cd_n M u0) = true then (if cd_k M a0 = 3 then (if cd_k M a1 = 4 then ((cd_ci (cd_c 23 [.ref a1, .int 1, .int 99] (cd_wI M u0 s1.toNatClampNeg s2))).bind fun q1 => cd_go 25 53 [.ref a0, .ref a1, .int x2, .int x3, .int x4] [.int q1.1, .int x3, .ref (cd_R (cd_wI M u0 s1.toNatClampNeg s2) a0 5)] q1.2) else none) else none) else none) = some r) : cd_go 25 45 [.ref a0, .ref a1, .int x2, .int x3, .int x4] [.int s2, .int s1, .ref u0] M = some r := cd_at (cuts := [10, 15, 20, 32, 45, 53, 61, 69]) (n := 400) (cd_bd25) rfl h
set_option maxRecDepth 1000000 in
set_option maxHeartbeats 8000000 in
theorem cd_q25_53 {a0 : Nat} {a1 : Nat} {x2 : Int32} {x3 : Int32} {x4 : Int32} {u0 : Nat} {s1 : Int32} {s2 : Int32} {M : cd_M} {r : cd_Ret} (h : (if cd_k M u0 = 20 ∧ cd_in s1 (cd_n M u0) = true then (if cd_k M a0 = 3 then (if cd_k M a1 = 4 then ((cd_ci (cd_c 23 [.ref a1, .int 0, .int 99] (cd_wI M u0 s1.toNatClampNeg s2))).bind fun q1 => cd_go 25 61 [.ref a0, .ref a1, .int x2, .int x3, .int x4] [.int q1.1, .int x3, .ref (cd_R (cd_wI M u0 s1.toNatClampNeg s2) a0 6)] q1.2) else none) else none) else none) = some r) : cd_go 25 53 [.ref a0, .ref a1, .int x2, .int x3, .int x4] [.int s2, .int s1, .ref u0] M = some r := cd_at (cuts := [10, 15, 20, 32, 45, 53, 61, 69]) (n := 400) (cd_bd25) rfl h
set_option maxRecDepth 1000000 in
set_option maxHeartbeats 8000000 in
theorem cd_q25_61 {a0 : Nat} {a1 : Nat} {x2 : Int32} {x3 : Int32} {x4 : Int32} {u0 : Nat} {s1 : Int32} {s2 : Int32} {M : cd_M} {r : cd_Ret} (h : (if cd_k M u0 = 20 ∧ cd_in s1 (cd_n M u0) = true then (if cd_k M a0 = 3 then (if cd_k M a1 = 4 then ((cd_ci (cd_c 23 [.ref a1, .int 1, .int 9] (cd_wI M u0 s1.toNatClampNeg s2))).bind fun q1 => cd_go 25 69 [.ref a0, .ref a1, .int x2, .int x3, .int x4] [.int q1.1, .int x3, .ref (cd_R (cd_wI M u0 s1.toNatClampNeg s2) a0 7)] q1.2) else none) else none) else none) = some r) : cd_go 25 61 [.ref a0, .ref a1, .int x2, .int x3, .int x4] [.int s2, .int s1, .ref u0] M = some r := cd_at (cuts := [10, 15, 20, 32, 45, 53, 61, 69]) (n := 400) (cd_bd25) rfl h
set_option maxRecDepth 1000000 in
set_option maxHeartbeats 8000000 in
theorem cd_q25_69 {a0 : Nat} {a1 : Nat} {x2 : Int32} {x3 : Int32} {x4 : Int32} {u0 : Nat} {s1 : Int32} {s2 : Int32} {M : cd_M} {r : cd_Ret} (h : (if cd_k M u0 = 20 ∧ cd_in s1 (cd_n M u0) = true then (if cd_k M a0 = 3 then (if cd_k M a0 = 3 then (let m1 : cd_M := (cd_wI (cd_wI M u0 s1.toNatClampNeg s2) a0 0 ((cd_I (cd_wI M u0 s1.toNatClampNeg s2) a0 0) + 1)); some (none, m1)) else none) else none) else none) = some r) : cd_go 25 69 [.ref a0, .ref a1, .int x2, .int x3, .int x4] [.int s2, .int s1, .ref u0] M = some r := cd_at (cuts := [10, 15, 20, 32, 45, 53, 61, 69]) (n := 400) (cd_bd25) rfl h
theorem cd_bd26 : cd_body 26 = cd_b26 := rfl
set_option maxRecDepth 1000000 in
set_option maxHeartbeats 8000000 in
theorem cd_q26_0 {a0 : Nat} {x1 : Int32} {M : cd_M} {r : cd_Ret} (h : (if cd_k M a0 = 3 then (if cd_k M (cd_R M a0 13) = 21 ∧ cd_in x1 (cd_n M (cd_R M a0 13)) = true then (if cd_k M a0 = 3 then (if cd_k M (cd_R (cd_wL M (cd_R M a0 13) x1.toNatClampNeg 0) a0 10) = 20 ∧ cd_in x1 (cd_n M (cd_R (cd_wL M (cd_R M a0 13) x1.toNatClampNeg 0) a0 10)) = true then (if cd_k M a0 = 3 then (if cd_k M (cd_R (cd_wL M (cd_R M a0 13) x1.toNatClampNeg 0) a0 8) = 20 ∧ cd_in x1 (cd_n M (cd_R (cd_wL M (cd_R M a0 13) x1.toNatClampNeg 0) a0 8)) = true then (cd_go 26 21 [.ref a0, .int x1, .long ((((1 : Int64) <<< ((cd_I (cd_wL M (cd_R M a0 13) x1.toNatClampNeg 0) (cd_R (cd_wL M (cd_R M a0 13) x1.toNatClampNeg 0) a0 10) x1.toNatClampNeg).toInt64 &&& 63)) - 1) <<< ((cd_I (cd_wL M (cd_R M a0 13) x1.toNatClampNeg 0) (cd_R (cd_wL M (cd_R M a0 13) x1.toNatClampNeg 0) a0 8) x1.toNatClampNeg).toInt64 &&& 63)), .null, .int 0] [] (cd_wL M (cd_R M a0 13) x1.toNatClampNeg 0)) else none) else none) else none) else none) else none) else none) = some r) : cd_go 26 0 [.ref a0, .int x1, .null, .null, .null] [] M = some r := cd_at (cuts := [21]) (n := 400) (cd_bd26) rfl h
set_option maxRecDepth 1000000 in
set_option maxHeartbeats 8000000 in
theorem cd_q26_21 {a0 : Nat} {x1 : Int32} {y2 : Int64} {x4 : Int32} {M : cd_M} {r : cd_Ret} (h : (if cd_k M a0 = 3 then (if cd_k M (cd_R M a0 9) = 20 ∧ cd_in x1 (cd_n M (cd_R M a0 9)) = true then (if x4 < (cd_I M (cd_R M a0 9) x1.toNatClampNeg) then (if cd_k M a0 = 3 then (if cd_k M (cd_R M a0 13) = 21 ∧ cd_in x1 (cd_n M (cd_R M a0 13)) = true then (if cd_k M (cd_R M a0 13) = 21 ∧ cd_in x1 (cd_n M (cd_R M a0 13)) = true then (let m1 : cd_M := (cd_wL M (cd_R M a0 13) x1.toNatClampNeg ((cd_L M (cd_R M a0 13) x1.toNatClampNeg) ||| (y2 <<< (((8 : Int32) * x4).toInt64 &&& 63)))); cd_go 26 21 [.ref a0, .int x1, .long y2, .null, .int (x4 + 1)] [] m1) else none) else none) else none) else some (none, M)) else none) else none) = some r) : cd_go 26 21 [.ref a0, .int x1, .long y2, .null, .int x4] [] M = some r := cd_at (cuts := [21]) (n := 400) (cd_bd26) rfl h
theorem cd_bd27 : cd_body 27 = cd_b27 := rfl
set_option maxRecDepth 1000000 in
set_option maxHeartbeats 8000000 in
theorem cd_q27_0 {a0 : Nat} {a1 : Nat} {x2 : Int32} {M : cd_M} {r : cd_Ret} (h : (if cd_k M a0 = 3 then (if (cd_I M a0 1) < 3 then (if cd_k M a0 = 3 then (if cd_k M a1 = 4 then ((cd_ci (cd_c 23 [.ref a1, .int 0, .int 63] M)).bind fun q1 => cd_go 27 18 [.ref a0, .ref a1, .int x2, .int (cd_I M a0 1)] [.int q1.1, .int (cd_I M a0 1), .ref (cd_R M a0 8)] q1.2) else none) else none) else if cd_k M a1 = 4 then ((cd_cv (cd_c 22 [.ref a1, .int 4, .int x2] M)).bind fun m2 => cd_go 27 10 [.ref a0, .ref a1, .int x2, .int (cd_I M a0 1)] [] m2) else none) else none) = some r) : cd_go 27 0 [.ref a0, .ref a1, .int x2, .null] [] M = some r := cd_at (cuts := [10, 18, 26, 34, 66, 70, 77, 85]) (n := 400) (cd_bd27) rfl h
set_option maxRecDepth 1000000 in
set_option maxHeartbeats 8000000 in
theorem cd_q27_10 {a0 : Nat} {a1 : Nat} {x2 : Int32} {x3 : Int32} {M : cd_M} {r : cd_Ret} (h : (some (none, M)) = some r) : cd_go 27 10 [.ref a0, .ref a1, .int x2, .int x3] [] M = some r := cd_at (cuts := [10, 18, 26, 34, 66, 70, 77, 85]) (n := 400) (cd_bd27) rfl h
set_option maxRecDepth 1000000 in
set_option maxHeartbeats 8000000 in
theorem cd_q27_18 {a0 : Nat} {a1 : Nat} {x2 : Int32} {x3 : Int32} {u0 : Nat} {s1 : Int32} {s2 : Int32} {M : cd_M} {r : cd_Ret} (h : (if cd_k M u0 = 20 ∧ cd_in s1 (cd_n M u0) = true then (if cd_k M a0 = 3 then (if cd_k M a1 = 4 then ((cd_ci (cd_c 23 [.ref a1, .int 1, .int 8] (cd_wI M u0 s1.toNatClampNeg s2))).bind fun q1 => cd_go 27 26 [.ref a0, .ref a1, .int x2, .int x3] [.int q1.1, .int x3, .ref (cd_R (cd_wI M u0 s1.toNatClampNeg s2) a0 9)] q1.2) else none) else none) else none) = some r) : cd_go 27 18 [.ref a0, .ref a1, .int x2, .int x3] [.int s2, .int s1, .ref u0] M = some r := cd_at (cuts := [10, 18, 26, 34, 66, 70, 77, 85]) (n := 400) (cd_bd27) rfl h
set_option maxRecDepth 1000000 in
set_option maxHeartbeats 8000000 in
theorem cd_q27_26 {a0 : Nat} {a1 : Nat} {x2 : Int32} {x3 : Int32} {u0 : Nat} {s1 : Int32} {s2 : Int32} {M : cd_M} {r : cd_Ret} (h : (if cd_k M u0 = 20 ∧ cd_in s1 (cd_n M u0) = true then (if cd_k M a0 = 3 then (if cd_k M a1 = 4 then ((cd_ci (cd_c 23 [.ref a1, .int 1, .int 8] (cd_wI M u0 s1.toNatClampNeg s2))).bind fun q1 => cd_go 27 34 [.ref a0, .ref a1, .int x2, .int x3] [.int q1.1, .int x3, .ref (cd_R (cd_wI M u0 s1.toNatClampNeg s2) a0 10)] q1.2) else none) else none) else none) = some r) : cd_go 27 26 [.ref a0, .ref a1, .int x2, .int x3] [.int s2, .int s1, .ref u0] M = some r := cd_at (cuts := [10, 18, 26, 34, 66, 70, 77, 85]) (n := 400) (cd_bd27) rfl h
set_option maxRecDepth 1000000 in
set_option maxHeartbeats 8000000 in
theorem cd_q27_34 {a0 : Nat} {a1 : Nat} {x2 : Int32} {x3 : Int32} {u0 : Nat} {s1 : Int32} {s2 : Int32} {M : cd_M} {r : cd_Ret} (h : (if cd_k M u0 = 20 ∧ cd_in s1 (cd_n M u0) = true then (if cd_k M a0 = 3 then (if cd_k M (cd_R (cd_wI M u0 s1.toNatClampNeg s2) a0 8) = 20 ∧ cd_in x3 (cd_n M (cd_R (cd_wI M u0 s1.toNatClampNeg s2) a0 8)) = true then (if cd_k M a0 = 3 then (if cd_k M (cd_R (cd_wI M u0 s1.toNatClampNeg s2) a0 9) = 20 ∧ cd_in x3 (cd_n M (cd_R (cd_wI M u0 s1.toNatClampNeg s2) a0 9)) = true then (if 8 < (((cd_I (cd_wI M u0 s1.toNatClampNeg s2) (cd_R (cd_wI M u0 s1.toNatClampNeg s2) a0 8) x3.toNatClampNeg) / 8) + (cd_I (cd_wI M u0 s1.toNatClampNeg s2) (cd_R (cd_wI M u0 s1.toNatClampNeg s2) a0 9) x3.toNatClampNeg)) then (if cd_k M a1 = 4 then (if cd_k M a1 = 4 then ((cd_cv (cd_c 22 [.ref a1, .int 5, .int (cd_I (cd_wI M u0 s1.toNatClampNeg s2) a1 6)] (cd_wI M u0 s1.toNatClampNeg s2))).bind fun m1 => cd_go 27 66 [.ref a0, .ref a1, .int x2, .int x3] [] m1) else none) else none) else if cd_k M a0 = 3 then (if cd_k M (cd_R (cd_wI M u0 s1.toNatClampNeg s2) a0 8) = 20 ∧ cd_in x3 (cd_n M (cd_R (cd_wI M u0 s1.toNatClampNeg s2) a0 8)) = true then (if cd_k M a0 = 3 then (if cd_k M (cd_R (cd_wI M u0 s1.toNatClampNeg s2) a0 10) = 20 ∧ cd_in x3 (cd_n M (cd_R (cd_wI M u0 s1.toNatClampNeg s2) a0 10)) = true then (if 8 < (((cd_I (cd_wI M u0 s1.toNatClampNeg s2) (cd_R (cd_wI M u0 s1.toNatClampNeg s2) a0 8) x3.toNatClampNeg) - (cd_I (cd_wI M u0 s1.toNatClampNeg s2) (cd_R (cd_wI M u0 s1.toNatClampNeg s2) a0 8) x3.toNatClampNeg) / 8 * 8) + (cd_I (cd_wI M u0 s1.toNatClampNeg s2) (cd_R (cd_wI M u0 s1.toNatClampNeg s2) a0 10) x3.toNatClampNeg)) then (if cd_k M a1 = 4 then (if cd_k M a1 = 4 then ((cd_cv (cd_c 22 [.ref a1, .int 5, .int (cd_I (cd_wI M u0 s1.toNatClampNeg s2) a1 6)] (cd_wI M u0 s1.toNatClampNeg s2))).bind fun m2 => cd_go 27 66 [.ref a0, .ref a1, .int x2, .int x3] [] m2) else none) else none) else if cd_k M a0 = 3 then ((cd_cv (cd_c 26 [.ref a0, .int x3] (cd_wI M u0 s1.toNatClampNeg s2))).bind fun m3 => cd_go 27 70 [.ref a0, .ref a1, .int x2, .int x3] [] m3) else none) else none) else none) else none) else none) else none) else none) else none) else none) else none) = some r) : cd_go 27 34 [.ref a0, .ref a1, .int x2, .int x3] [.int s2, .int s1, .ref u0] M = some r := cd_at (cuts := [10, 18, 26, 34, 66, 70, 77, 85]) (n := 400) (cd_bd27) rfl h
set_option maxRecDepth 1000000 in
set_option maxHeartbeats 8000000 in
theorem cd_q27_66 {a0 : Nat} {a1 : Nat} {x2 : Int32} {x3 : Int32} {M : cd_M} {r : cd_Ret} (h : (some (none, M)) = some r) : cd_go 27 66 [.ref a0, .ref a1, .int x2, .int x3] [] M = some r := cd_at (cuts := [10, 18, 26, 34, 66, 70, 77, 85]) (n := 400) (cd_bd27) rfl h
set_option maxRecDepth 1000000 in
set_option maxHeartbeats 8000000 in
theorem cd_q27_70 {a0 : Nat} {a1 : Nat} {x2 : Int32} {x3 : Int32} {M : cd_M} {r : cd_Ret} (h : (if cd_k M a0 = 3 then (if cd_k M a1 = 4 then ((cd_ci (cd_c 23 [.ref a1, .int 1, .int 9] M)).bind fun q1 => cd_go 27 77 [.ref a0, .ref a1, .int x2, .int x3] [.int q1.1, .int x3, .ref (cd_R M a0 11)] q1.2) else none) else none) = some r) : cd_go 27 70 [.ref a0, .ref a1, .int x2, .int x3] [] M = some r := cd_at (cuts := [10, 18, 26, 34, 66, 70, 77, 85]) (n := 400) (cd_bd27) rfl h
set_option maxRecDepth 1000000 in
set_option maxHeartbeats 8000000 in
theorem cd_q27_77 {a0 : Nat} {a1 : Nat} {x2 : Int32} {x3 : Int32} {u0 : Nat} {s1 : Int32} {s2 : Int32} {M : cd_M} {r : cd_Ret} (h : (if cd_k M u0 = 20 ∧ cd_in s1 (cd_n M u0) = true then (if cd_k M a0 = 3 then (if cd_k M a1 = 4 then ((cd_ci (cd_c 23 [.ref a1, .int 1, .int 9] (cd_wI M u0 s1.toNatClampNeg s2))).bind fun q1 => cd_go 27 85 [.ref a0, .ref a1, .int x2, .int x3] [.int q1.1, .int x3, .ref (cd_R (cd_wI M u0 s1.toNatClampNeg s2) a0 12)] q1.2) else none) else none) else none) = some r) : cd_go 27 77 [.ref a0, .ref a1, .int x2, .int x3] [.int s2, .int s1, .ref u0] M = some r := cd_at (cuts := [10, 18, 26, 34, 66, 70, 77, 85]) (n := 400) (cd_bd27) rfl h
set_option maxRecDepth 1000000 in
set_option maxHeartbeats 8000000 in
theorem cd_q27_85 {a0 : Nat} {a1 : Nat} {x2 : Int32} {x3 : Int32} {u0 : Nat} {s1 : Int32} {s2 : Int32} {M : cd_M} {r : cd_Ret} (h : (if cd_k M u0 = 20 ∧ cd_in s1 (cd_n M u0) = true then (if cd_k M a0 = 3 then (if cd_k M a0 = 3 then (let m1 : cd_M := (cd_wI (cd_wI M u0 s1.toNatClampNeg s2) a0 1 ((cd_I (cd_wI M u0 s1.toNatClampNeg s2) a0 1) + 1)); some (none, m1)) else none) else none) else none) = some r) : cd_go 27 85 [.ref a0, .ref a1, .int x2, .int x3] [.int s2, .int s1, .ref u0] M = some r := cd_at (cuts := [10, 18, 26, 34, 66, 70, 77, 85]) (n := 400) (cd_bd27) rfl h
theorem cd_bd28 : cd_body 28 = cd_b28 := rfl
set_option maxRecDepth 1000000 in
set_option maxHeartbeats 8000000 in
theorem cd_q28_0 {a0 : Nat} {x1 : Int32} {x2 : Int32} {M : cd_M} {r : cd_Ret} (h : (cd_go 28 2 [.ref a0, .int x1, .int x2, .int 0] [] M) = some r) : cd_go 28 0 [.ref a0, .int x1, .int x2, .null] [] M = some r := cd_at (cuts := [2]) (n := 400) (cd_bd28) rfl h
set_option maxRecDepth 1000000 in
set_option maxHeartbeats 8000000 in
theorem cd_q28_2 {a0 : Nat} {x1 : Int32} {x2 : Int32} {x3 : Int32} {M : cd_M} {r : cd_Ret} (h : (if cd_k M a0 = 3 then (if x3 < (cd_I M a0 2) then (if cd_k M a0 = 3 then (if cd_k M (cd_R M a0 14) = 20 ∧ cd_in x3 (cd_n M (cd_R M a0 14)) = true then (if (cd_I M (cd_R M a0 14) x3.toNatClampNeg) = x1 then (if cd_k M a0 = 3 then (if cd_k M (cd_R M a0 15) = 20 ∧ cd_in x3 (cd_n M (cd_R M a0 15)) = true then (if (cd_I M (cd_R M a0 15) x3.toNatClampNeg) = x2 then (some (some (.int 1), M)) else cd_go 28 2 [.ref a0, .int x1, .int x2, .int (x3 + 1)] [] M) else none) else none) else cd_go 28 2 [.ref a0, .int x1, .int x2, .int (x3 + 1)] [] M) else none) else none) else some (some (.int 0), M)) else none) = some r) : cd_go 28 2 [.ref a0, .int x1, .int x2, .int x3] [] M = some r := cd_at (cuts := [2]) (n := 400) (cd_bd28) rfl h
theorem cd_bd29 : cd_body 29 = cd_b29 := rfl
set_option maxRecDepth 1000000 in
set_option maxHeartbeats 8000000 in
theorem cd_q29_0 {a0 : Nat} {x1 : Int32} {x2 : Int32} {M : cd_M} {r : cd_Ret} (h : (if cd_k M a0 = 3 then (if cd_k M (cd_R M a0 13) = 21 ∧ cd_in x1 (cd_n M (cd_R M a0 13)) = true then (if (lg_cmp ((((cd_L M (cd_R M a0 13) x1.toNatClampNeg).toUInt64 >>> (x2.toInt64.toUInt64 &&& Int64.toUInt64 63)).toInt64) &&& 1) 0) = 0 then (some (some (.int 0), M)) else some (some (.int 1), M)) else none) else none) = some r) : cd_go 29 0 [.ref a0, .int x1, .int x2] [] M = some r := cd_at (cuts := []) (n := 400) (cd_bd29) rfl h
theorem cd_bd30 : cd_body 30 = cd_b30 := rfl
set_option maxRecDepth 1000000 in
set_option maxHeartbeats 8000000 in
theorem cd_q30_0 {a0 : Nat} {a1 : Nat} {x2 : Int32} {M : cd_M} {r : cd_Ret} (h : (if cd_k M a0 = 3 then (if cd_k M (cd_R M a0 14) = 20 ∧ cd_in x2 (cd_n M (cd_R M a0 14)) = true then (if cd_k M a1 = 6 then (if cd_k M a0 = 3 then (if cd_k M (cd_R M a0 15) = 20 ∧ cd_in x2 (cd_n M (cd_R M a0 15)) = true then (if cd_k M (cd_R M a1 0) = 20 ∧ cd_in (cd_I M (cd_R M a0 15) x2.toNatClampNeg) (cd_n M (cd_R M a1 0)) = true then (if cd_k M a0 = 3 then ((cd_ci (cd_c 29 [.ref a0, .int (cd_I M (cd_R M a0 14) x2.toNatClampNeg), .int (cd_I M (cd_R M a1 0) (cd_I M (cd_R M a0 15) x2.toNatClampNeg).toNatClampNeg)] M)).bind fun q1 => cd_go 30 13 [.ref a0, .ref a1, .int x2] [.int q1.1] q1.2) else none) else none) else none) else none) else none) else none) else none) = some r) : cd_go 30 0 [.ref a0, .ref a1, .int x2] [] M = some r := cd_at (cuts := [13]) (n := 400) (cd_bd30) rfl h
set_option maxRecDepth 1000000 in
set_option maxHeartbeats 8000000 in
theorem cd_q30_13 {a0 : Nat} {a1 : Nat} {x2 : Int32} {s0 : Int32} {M : cd_M} {r : cd_Ret} (h : (if s0 &&& 1 = s0 then some (some (.int s0), M) else none) = some r) : cd_go 30 13 [.ref a0, .ref a1, .int x2] [.int s0] M = some r := cd_at (cuts := [13]) (n := 400) (cd_bd30) rfl h
theorem cd_bd31 : cd_body 31 = cd_b31 := rfl
set_option maxRecDepth 1000000 in
set_option maxHeartbeats 8000000 in
theorem cd_q31_0 {a0 : Nat} {M : cd_M} {r : cd_Ret} (h : (if cd_k M a0 = 4 then ((cd_ci (cd_c 21 [.ref a0, .ref 1003] M)).bind fun q1 => cd_go 31 3 [.ref a0] [.int q1.1] q1.2) else none) = some r) : cd_go 31 0 [.ref a0] [] M = some r := cd_at (cuts := [3, 9, 15, 21, 27, 33]) (n := 400) (cd_bd31) rfl h
set_option maxRecDepth 1000000 in
set_option maxHeartbeats 8000000 in
theorem cd_q31_3 {a0 : Nat} {s0 : Int32} {M : cd_M} {r : cd_Ret} (h : (if s0 = 0 then (if cd_k M a0 = 4 then ((cd_ci (cd_c 21 [.ref a0, .ref 1004] M)).bind fun q1 => cd_go 31 9 [.ref a0] [.int q1.1] q1.2) else none) else some (some (.int 0), M)) = some r) : cd_go 31 3 [.ref a0] [.int s0] M = some r := cd_at (cuts := [3, 9, 15, 21, 27, 33]) (n := 400) (cd_bd31) rfl h
set_option maxRecDepth 1000000 in
set_option maxHeartbeats 8000000 in
theorem cd_q31_9 {a0 : Nat} {s0 : Int32} {M : cd_M} {r : cd_Ret} (h : (if s0 = 0 then (if cd_k M a0 = 4 then ((cd_ci (cd_c 21 [.ref a0, .ref 1005] M)).bind fun q1 => cd_go 31 15 [.ref a0] [.int q1.1] q1.2) else none) else some (some (.int 1), M)) = some r) : cd_go 31 9 [.ref a0] [.int s0] M = some r := cd_at (cuts := [3, 9, 15, 21, 27, 33]) (n := 400) (cd_bd31) rfl h
set_option maxRecDepth 1000000 in
set_option maxHeartbeats 8000000 in
theorem cd_q31_15 {a0 : Nat} {s0 : Int32} {M : cd_M} {r : cd_Ret} (h : (if s0 = 0 then (if cd_k M a0 = 4 then ((cd_ci (cd_c 21 [.ref a0, .ref 1006] M)).bind fun q1 => cd_go 31 21 [.ref a0] [.int q1.1] q1.2) else none) else some (some (.int 2), M)) = some r) : cd_go 31 15 [.ref a0] [.int s0] M = some r := cd_at (cuts := [3, 9, 15, 21, 27, 33]) (n := 400) (cd_bd31) rfl h
set_option maxRecDepth 1000000 in
set_option maxHeartbeats 8000000 in
theorem cd_q31_21 {a0 : Nat} {s0 : Int32} {M : cd_M} {r : cd_Ret} (h : (if s0 = 0 then (if cd_k M a0 = 4 then ((cd_ci (cd_c 21 [.ref a0, .ref 1007] M)).bind fun q1 => cd_go 31 27 [.ref a0] [.int q1.1] q1.2) else none) else some (some (.int 3), M)) = some r) : cd_go 31 21 [.ref a0] [.int s0] M = some r := cd_at (cuts := [3, 9, 15, 21, 27, 33]) (n := 400) (cd_bd31) rfl h
set_option maxRecDepth 1000000 in
set_option maxHeartbeats 8000000 in
theorem cd_q31_27 {a0 : Nat} {s0 : Int32} {M : cd_M} {r : cd_Ret} (h : (if s0 = 0 then (if cd_k M a0 = 4 then (if cd_k M a0 = 4 then ((cd_cv (cd_c 22 [.ref a0, .int 1, .int (cd_I M a0 4)] M)).bind fun m1 => cd_go 31 33 [.ref a0] [] m1) else none) else none) else cd_go 31 33 [.ref a0] [] M) = some r) : cd_go 31 27 [.ref a0] [.int s0] M = some r := cd_at (cuts := [3, 9, 15, 21, 27, 33]) (n := 400) (cd_bd31) rfl h
set_option maxRecDepth 1000000 in
set_option maxHeartbeats 8000000 in
theorem cd_q31_33 {a0 : Nat} {M : cd_M} {r : cd_Ret} (h : (some (some (.int 4), M)) = some r) : cd_go 31 33 [.ref a0] [] M = some r := cd_at (cuts := [3, 9, 15, 21, 27, 33]) (n := 400) (cd_bd31) rfl h
theorem cd_bd32 : cd_body 32 = cd_b32 := rfl
set_option maxRecDepth 1000000 in
set_option maxHeartbeats 8000000 in
theorem cd_q32_0 {a0 : Nat} {x1 : Int32} {x2 : Int32} {x3 : Int32} {M : cd_M} {r : cd_Ret} (h : (if cd_k M a0 = 6 then (if cd_k M (cd_R M a0 3) = 20 ∧ cd_in x1 (cd_n M (cd_R M a0 3)) = true then (if cd_k M a0 = 6 then (if cd_k M (cd_R (cd_wI M (cd_R M a0 3) x1.toNatClampNeg x2) a0 4) = 20 ∧ cd_in x1 (cd_n M (cd_R (cd_wI M (cd_R M a0 3) x1.toNatClampNeg x2) a0 4)) = true then (let m1 : cd_M := (cd_wI (cd_wI M (cd_R M a0 3) x1.toNatClampNeg x2) (cd_R (cd_wI M (cd_R M a0 3) x1.toNatClampNeg x2) a0 4) x1.toNatClampNeg x3); some (none, m1)) else none) else none) else none) else none) = some r) : cd_go 32 0 [.ref a0, .int x1, .int x2, .int x3] [] M = some r := cd_at (cuts := []) (n := 400) (cd_bd32) rfl h
theorem cd_bd33 : cd_body 33 = cd_b33 := rfl
set_option maxRecDepth 1000000 in
set_option maxHeartbeats 8000000 in
theorem cd_q33_0 {a0 : Nat} {a1 : Nat} {x2 : Int32} {M : cd_M} {r : cd_Ret} (h : (if cd_k M a0 = 3 then (if (cd_I M a0 2) < 12 then (if cd_k M a0 = 3 then (if cd_k M a1 = 4 then ((cd_ci (cd_c 23 [.ref a1, .int 0, .int ((cd_I M a0 1) - 1)] M)).bind fun q1 => cd_go 33 18 [.ref a0, .ref a1, .int x2, .int (cd_I M a0 2), .null, .null, .null] [.int q1.1] q1.2) else none) else none) else if cd_k M a1 = 4 then ((cd_cv (cd_c 22 [.ref a1, .int 4, .int x2] M)).bind fun m2 => cd_go 33 10 [.ref a0, .ref a1, .int x2, .int (cd_I M a0 2), .null, .null, .null] [] m2) else none) else none) = some r) : cd_go 33 0 [.ref a0, .ref a1, .int x2, .null, .null, .null, .null] [] M = some r := cd_at (cuts := [10, 18, 26, 52, 58, 64, 67, 79, 82]) (n := 400) (cd_bd33) rfl h
set_option maxRecDepth 1000000 in
set_option maxHeartbeats 8000000 in
theorem cd_q33_10 {a0 : Nat} {a1 : Nat} {x2 : Int32} {x3 : Int32} {M : cd_M} {r : cd_Ret} (h : (some (none, M)) = some r) : cd_go 33 10 [.ref a0, .ref a1, .int x2, .int x3, .null, .null, .null] [] M = some r := cd_at (cuts := [10, 18, 26, 52, 58, 64, 67, 79, 82]) (n := 400) (cd_bd33) rfl h
set_option maxRecDepth 1000000 in
set_option maxHeartbeats 8000000 in
theorem cd_q33_18 {a0 : Nat} {a1 : Nat} {x2 : Int32} {x3 : Int32} {s0 : Int32} {M : cd_M} {r : cd_Ret} (h : (if cd_k M a0 = 3 then (if cd_k M a1 = 4 then ((cd_ci (cd_c 23 [.ref a1, .int 0, .int ((cd_I M a0 0) - 1)] M)).bind fun q1 => cd_go 33 26 [.ref a0, .ref a1, .int x2, .int x3, .int s0, .null, .null] [.int q1.1] q1.2) else none) else none) = some r) : cd_go 33 18 [.ref a0, .ref a1, .int x2, .int x3, .null, .null, .null] [.int s0] M = some r := cd_at (cuts := [10, 18, 26, 52, 58, 64, 67, 79, 82]) (n := 400) (cd_bd33) rfl h
set_option maxRecDepth 1000000 in
set_option maxHeartbeats 8000000 in
theorem cd_q33_26 {a0 : Nat} {a1 : Nat} {x2 : Int32} {x3 : Int32} {x4 : Int32} {s0 : Int32} {M : cd_M} {r : cd_Ret} (h : (if cd_k M a1 = 4 then (if (cd_I M a1 7) = 0 then (if cd_k M a0 = 3 then (if cd_k M (cd_R M a0 14) = 20 ∧ cd_in x3 (cd_n M (cd_R M a0 14)) = true then (if cd_k M a0 = 3 then (if cd_k M (cd_R (cd_wI M (cd_R M a0 14) x3.toNatClampNeg x4) a0 15) = 20 ∧ cd_in x3 (cd_n M (cd_R (cd_wI M (cd_R M a0 14) x3.toNatClampNeg x4) a0 15)) = true then (let m1 : cd_M := (cd_wI (cd_wI M (cd_R M a0 14) x3.toNatClampNeg x4) (cd_R (cd_wI M (cd_R M a0 14) x3.toNatClampNeg x4) a0 15) x3.toNatClampNeg s0); if cd_k M a0 = 3 then (if ((((cd_I m1 a0 3).toUInt32 >>> (s0.toUInt32 &&& Int32.toUInt32 31)).toInt32) &&& 1) = 0 then (if cd_k M a0 = 3 then ((cd_ci (cd_c 28 [.ref a0, .int x4, .int s0] m1)).bind fun q2 => cd_go 33 52 [.ref a0, .ref a1, .int x2, .int x3, .int x4, .int s0, .null] [.int q2.1] q2.2) else none) else if cd_k M a1 = 4 then (if cd_k M a1 = 4 then ((cd_cv (cd_c 22 [.ref a1, .int 3, .int (cd_I m1 a1 6)] m1)).bind fun m3 => cd_go 33 64 [.ref a0, .ref a1, .int x2, .int x3, .int x4, .int s0, .null] [] m3) else none) else none) else none) else none) else none) else none) else none) else some (none, M)) else none) = some r) : cd_go 33 26 [.ref a0, .ref a1, .int x2, .int x3, .int x4, .null, .null] [.int s0] M = some r := cd_at (cuts := [10, 18, 26, 52, 58, 64, 67, 79, 82]) (n := 400) (cd_bd33) rfl h
set_option maxRecDepth 1000000 in
set_option maxHeartbeats 8000000 in
theorem cd_q33_52 {a0 : Nat} {a1 : Nat} {x2 : Int32} {x3 : Int32} {x4 : Int32} {x5 : Int32} {s0 : Int32} {M : cd_M} {r : cd_Ret} (h : (if s0 = 0 then (if cd_k M a0 = 3 then (if cd_k M a0 = 3 then ((cd_ci (cd_c 30 [.ref a0, .ref (cd_R M a0 19), .int x3] M)).bind fun q1 => cd_go 33 58 [.ref a0, .ref a1, .int x2, .int x3, .int x4, .int x5, .null] [.int q1.1] q1.2) else none) else none) else if cd_k M a1 = 4 then (if cd_k M a1 = 4 then ((cd_cv (cd_c 22 [.ref a1, .int 3, .int (cd_I M a1 6)] M)).bind fun m2 => cd_go 33 64 [.ref a0, .ref a1, .int x2, .int x3, .int x4, .int x5, .null] [] m2) else none) else none) = some r) : cd_go 33 52 [.ref a0, .ref a1, .int x2, .int x3, .int x4, .int x5, .null] [.int s0] M = some r := cd_at (cuts := [10, 18, 26, 52, 58, 64, 67, 79, 82]) (n := 400) (cd_bd33) rfl h
set_option maxRecDepth 1000000 in
set_option maxHeartbeats 8000000 in
theorem cd_q33_58 {a0 : Nat} {a1 : Nat} {x2 : Int32} {x3 : Int32} {x4 : Int32} {x5 : Int32} {s0 : Int32} {M : cd_M} {r : cd_Ret} (h : (if s0 = 0 then (if cd_k M a1 = 4 then (if cd_k M a1 = 4 then ((cd_cv (cd_c 22 [.ref a1, .int 3, .int (cd_I M a1 6)] M)).bind fun m1 => cd_go 33 64 [.ref a0, .ref a1, .int x2, .int x3, .int x4, .int x5, .null] [] m1) else none) else none) else (cd_ci (cd_c 31 [.ref a1] M)).bind fun q2 => cd_go 33 67 [.ref a0, .ref a1, .int x2, .int x3, .int x4, .int x5, .null] [.int q2.1] q2.2) = some r) : cd_go 33 58 [.ref a0, .ref a1, .int x2, .int x3, .int x4, .int x5, .null] [.int s0] M = some r := cd_at (cuts := [10, 18, 26, 52, 58, 64, 67, 79, 82]) (n := 400) (cd_bd33) rfl h
set_option maxRecDepth 1000000 in
set_option maxHeartbeats 8000000 in
theorem cd_q33_64 {a0 : Nat} {a1 : Nat} {x2 : Int32} {x3 : Int32} {x4 : Int32} {x5 : Int32} {M : cd_M} {r : cd_Ret} (h : (some (none, M)) = some r) : cd_go 33 64 [.ref a0, .ref a1, .int x2, .int x3, .int x4, .int x5, .null] [] M = some r := cd_at (cuts := [10, 18, 26, 52, 58, 64, 67, 79, 82]) (n := 400) (cd_bd33) rfl h
set_option maxRecDepth 1000000 in
set_option maxHeartbeats 8000000 in
theorem cd_q33_67 {a0 : Nat} {a1 : Nat} {x2 : Int32} {x3 : Int32} {x4 : Int32} {x5 : Int32} {s0 : Int32} {M : cd_M} {r : cd_Ret} (h : (if cd_k M a0 = 3 then (if s0 = 2 then (if cd_k M a1 = 4 then ((cd_ci (cd_c 23 [.ref a1, .int 1, .int 99] M)).bind fun q1 => cd_go 33 79 [.ref a0, .ref a1, .int x2, .int x3, .int x4, .int x5, .int s0] [.int q1.1, .int s0, .int x3, .ref (cd_R M a0 19)] q1.2) else none) else if cd_k M (cd_R M a0 19) = 6 then ((cd_cv (cd_c 32 [.ref (cd_R M a0 19), .int x3, .int s0, .int 0] M)).bind fun m2 => cd_go 33 82 [.ref a0, .ref a1, .int x2, .int x3, .int x4, .int x5, .int s0] [] m2) else none) else none) = some r) : cd_go 33 67 [.ref a0, .ref a1, .int x2, .int x3, .int x4, .int x5, .null] [.int s0] M = some r := cd_at (cuts := [10, 18, 26, 52, 58, 64, 67, 79, 82]) (n := 400) (cd_bd33) rfl h
set_option maxRecDepth 1000000 in
set_option maxHeartbeats 8000000 in
theorem cd_q33_79 {a0 : Nat} {a1 : Nat} {x2 : Int32} {x3 : Int32} {x4 : Int32} {x5 : Int32} {x6 : Int32} {u0 : Nat} {s1 : Int32} {s2 : Int32} {s3 : Int32} {M : cd_M} {r : cd_Ret} (h : (if cd_k M u0 = 6 then ((cd_cv (cd_c 32 [.ref u0, .int s1, .int s2, .int s3] M)).bind fun m1 => cd_go 33 82 [.ref a0, .ref a1, .int x2, .int x3, .int x4, .int x5, .int x6] [] m1) else none) = some r) : cd_go 33 79 [.ref a0, .ref a1, .int x2, .int x3, .int x4, .int x5, .int x6] [.int s3, .int s2, .int s1, .ref u0] M = some r := cd_at (cuts := [10, 18, 26, 52, 58, 64, 67, 79, 82]) (n := 400) (cd_bd33) rfl h
set_option maxRecDepth 1000000 in
set_option maxHeartbeats 8000000 in
theorem cd_q33_82 {a0 : Nat} {a1 : Nat} {x2 : Int32} {x3 : Int32} {x4 : Int32} {x5 : Int32} {x6 : Int32} {M : cd_M} {r : cd_Ret} (h : (if cd_k M a0 = 3 then (if cd_k M (cd_R M a0 19) = 6 then (if cd_k M (cd_R M a0 19) = 6 then (if cd_k M a0 = 3 then (if cd_k M a0 = 3 then (let m1 : cd_M := (cd_wI (cd_wI M (cd_R M a0 19) 2 ((cd_I M (cd_R M a0 19) 2) ||| ((1 : Int32) <<< (x3 &&& 31)))) a0 2 ((cd_I (cd_wI M (cd_R M a0 19) 2 ((cd_I M (cd_R M a0 19) 2) ||| ((1 : Int32) <<< (x3 &&& 31)))) a0 2) + 1)); some (none, m1)) else none) else none) else none) else none) else none) = some r) : cd_go 33 82 [.ref a0, .ref a1, .int x2, .int x3, .int x4, .int x5, .int x6] [] M = some r := cd_at (cuts := [10, 18, 26, 52, 58, 64, 67, 79, 82]) (n := 400) (cd_bd33) rfl h
theorem cd_bd34 : cd_body 34 = cd_b34 := rfl
set_option maxRecDepth 1000000 in
set_option maxHeartbeats 8000000 in
theorem cd_q34_0 {a0 : Nat} {a1 : Nat} {x2 : Int32} {M : cd_M} {r : cd_Ret} (h : (if cd_k M a0 = 3 then (if (cd_I M a0 18) = 0 then (cd_go 34 7 [.ref a0, .ref a1, .int x2] [] M) else if cd_k M a1 = 4 then ((cd_cv (cd_c 22 [.ref a1, .int 3, .int x2] M)).bind fun m1 => cd_go 34 7 [.ref a0, .ref a1, .int x2] [] m1) else none) else none) = some r) : cd_go 34 0 [.ref a0, .ref a1, .int x2] [] M = some r := cd_at (cuts := [7, 15, 21]) (n := 400) (cd_bd34) rfl h
set_option maxRecDepth 1000000 in
set_option maxHeartbeats 8000000 in
theorem cd_q34_7 {a0 : Nat} {a1 : Nat} {x2 : Int32} {M : cd_M} {r : cd_Ret} (h : (if cd_k M a0 = 3 then (if cd_k M a1 = 4 then ((cd_ci (cd_c 23 [.ref a1, .int 0, .int 99] (cd_wI M a0 18 1))).bind fun q1 => cd_go 34 15 [.ref a0, .ref a1, .int x2] [.int q1.1, .ref a0] q1.2) else none) else none) = some r) : cd_go 34 7 [.ref a0, .ref a1, .int x2] [] M = some r := cd_at (cuts := [7, 15, 21]) (n := 400) (cd_bd34) rfl h
set_option maxRecDepth 1000000 in
set_option maxHeartbeats 8000000 in
theorem cd_q34_15 {a0 : Nat} {a1 : Nat} {x2 : Int32} {u0 : Nat} {s1 : Int32} {M : cd_M} {r : cd_Ret} (h : (if cd_k M u0 = 3 then (if cd_k M a1 = 4 then ((cd_ci (cd_c 23 [.ref a1, .int 1, .int 20] (cd_wI M u0 16 s1))).bind fun q1 => cd_go 34 21 [.ref a0, .ref a1, .int x2] [.int q1.1, .ref a0] q1.2) else none) else none) = some r) : cd_go 34 15 [.ref a0, .ref a1, .int x2] [.int s1, .ref u0] M = some r := cd_at (cuts := [7, 15, 21]) (n := 400) (cd_bd34) rfl h
set_option maxRecDepth 1000000 in
set_option maxHeartbeats 8000000 in
theorem cd_q34_21 {a0 : Nat} {a1 : Nat} {x2 : Int32} {u0 : Nat} {s1 : Int32} {M : cd_M} {r : cd_Ret} (h : (if cd_k M u0 = 3 then (some (none, (cd_wI M u0 17 s1))) else none) = some r) : cd_go 34 21 [.ref a0, .ref a1, .int x2] [.int s1, .ref u0] M = some r := cd_at (cuts := [7, 15, 21]) (n := 400) (cd_bd34) rfl h
theorem cd_bd35 : cd_body 35 = cd_b35 := rfl
set_option maxRecDepth 1000000 in
set_option maxHeartbeats 8000000 in
theorem cd_q35_0 {a0 : Nat} {x1 : Int32} {M : cd_M} {r : cd_Ret} (h : (cd_go 35 2 [.ref a0, .int x1, .int 0] [] M) = some r) : cd_go 35 0 [.ref a0, .int x1, .null] [] M = some r := cd_at (cuts := [2]) (n := 400) (cd_bd35) rfl h
set_option maxRecDepth 1000000 in
set_option maxHeartbeats 8000000 in
theorem cd_q35_2 {a0 : Nat} {x1 : Int32} {x2 : Int32} {M : cd_M} {r : cd_Ret} (h : (if cd_k M a0 = 3 then (if x2 < (cd_I M a0 2) then (if cd_k M a0 = 3 then (if cd_k M (cd_R M a0 15) = 20 ∧ cd_in x2 (cd_n M (cd_R M a0 15)) = true then (if (cd_I M (cd_R M a0 15) x2.toNatClampNeg) = x1 then (some (some (.int 1), M)) else cd_go 35 2 [.ref a0, .int x1, .int (x2 + 1)] [] M) else none) else none) else some (some (.int 0), M)) else none) = some r) : cd_go 35 2 [.ref a0, .int x1, .int x2] [] M = some r := cd_at (cuts := [2]) (n := 400) (cd_bd35) rfl h
theorem cd_bd36 : cd_body 36 = cd_b36 := rfl
set_option maxRecDepth 1000000 in
set_option maxHeartbeats 8000000 in
theorem cd_q36_0 {a0 : Nat} {a1 : Nat} {M : cd_M} {r : cd_Ret} (h : (if cd_k M a0 = 3 then (if cd_k M a1 = 4 then ((cd_ci (cd_c 23 [.ref a1, .int 0, .int ((cd_I M a0 0) - 1)] M)).bind fun q1 => cd_go 36 7 [.ref a0, .ref a1, .null] [.int q1.1] q1.2) else none) else none) = some r) : cd_go 36 0 [.ref a0, .ref a1, .null] [] M = some r := cd_at (cuts := [7, 14, 20]) (n := 400) (cd_bd36) rfl h
set_option maxRecDepth 1000000 in
set_option maxHeartbeats 8000000 in
theorem cd_q36_7 {a0 : Nat} {a1 : Nat} {s0 : Int32} {M : cd_M} {r : cd_Ret} (h : (if cd_k M a1 = 4 then (if (cd_I M a1 7) = 0 then (if cd_k M a0 = 3 then ((cd_ci (cd_c 35 [.ref a0, .int s0] M)).bind fun q1 => cd_go 36 14 [.ref a0, .ref a1, .int s0] [.int q1.1] q1.2) else none) else cd_go 36 20 [.ref a0, .ref a1, .int s0] [] M) else none) = some r) : cd_go 36 7 [.ref a0, .ref a1, .null] [.int s0] M = some r := cd_at (cuts := [7, 14, 20]) (n := 400) (cd_bd36) rfl h
set_option maxRecDepth 1000000 in
set_option maxHeartbeats 8000000 in
theorem cd_q36_14 {a0 : Nat} {a1 : Nat} {x2 : Int32} {s0 : Int32} {M : cd_M} {r : cd_Ret} (h : (if s0 = 0 then (cd_go 36 20 [.ref a0, .ref a1, .int x2] [] M) else if cd_k M a1 = 4 then (if cd_k M a1 = 4 then ((cd_cv (cd_c 22 [.ref a1, .int 3, .int (cd_I M a1 6)] M)).bind fun m1 => cd_go 36 20 [.ref a0, .ref a1, .int x2] [] m1) else none) else none) = some r) : cd_go 36 14 [.ref a0, .ref a1, .int x2] [.int s0] M = some r := cd_at (cuts := [7, 14, 20]) (n := 400) (cd_bd36) rfl h
set_option maxRecDepth 1000000 in
set_option maxHeartbeats 8000000 in
theorem cd_q36_20 {a0 : Nat} {a1 : Nat} {x2 : Int32} {M : cd_M} {r : cd_Ret} (h : (if cd_k M a0 = 3 then (if cd_k M a0 = 3 then (some (none, (cd_wI M a0 3 ((cd_I M a0 3) ||| ((1 : Int32) <<< (x2 &&& 31)))))) else none) else none) = some r) : cd_go 36 20 [.ref a0, .ref a1, .int x2] [] M = some r := cd_at (cuts := [7, 14, 20]) (n := 400) (cd_bd36) rfl h
theorem cd_bd37 : cd_body 37 = cd_b37 := rfl
set_option maxRecDepth 1000000 in
set_option maxHeartbeats 8000000 in
theorem cd_q37_0 {a0 : Nat} {M : cd_M} {r : cd_Ret} (h : (if cd_k M a0 = 4 then (if (cd_I M a0 7) = 0 then (if cd_k M a0 = 4 then (if (cd_I M a0 3) = 3 then (if cd_k M a0 = 4 then (if cd_k M a0 = 4 then (if cd_k M (cd_R M a0 0) = 20 ∧ cd_in (cd_I M a0 4) (cd_n M (cd_R M a0 0)) = true then (if (cd_I M (cd_R M a0 0) (cd_I M a0 4).toNatClampNeg) = 59 then (if cd_k M a0 = 4 then ((cd_cv (cd_c 16 [.ref a0] M)).bind fun m1 => cd_go 37 23 [.ref a0] [] m1) else none) else if cd_k M a0 = 4 then (if cd_k M a0 = 4 then ((cd_cv (cd_c 22 [.ref a0, .int 1, .int (cd_I M a0 4)] M)).bind fun m2 => cd_go 37 20 [.ref a0] [] m2) else none) else none) else none) else none) else none) else if cd_k M a0 = 4 then (if cd_k M a0 = 4 then ((cd_cv (cd_c 22 [.ref a0, .int 1, .int (cd_I M a0 4)] M)).bind fun m3 => cd_go 37 20 [.ref a0] [] m3) else none) else none) else none) else some (none, M)) else none) = some r) : cd_go 37 0 [.ref a0] [] M = some r := cd_at (cuts := [20, 23]) (n := 400) (cd_bd37) rfl h
set_option maxRecDepth 1000000 in
set_option maxHeartbeats 8000000 in
theorem cd_q37_20 {a0 : Nat} {M : cd_M} {r : cd_Ret} (h : (some (none, M)) = some r) : cd_go 37 20 [.ref a0] [] M = some r := cd_at (cuts := [20, 23]) (n := 400) (cd_bd37) rfl h
set_option maxRecDepth 1000000 in
set_option maxHeartbeats 8000000 in
theorem cd_q37_23 {a0 : Nat} {M : cd_M} {r : cd_Ret} (h : (some (none, M)) = some r) : cd_go 37 23 [.ref a0] [] M = some r := cd_at (cuts := [20, 23]) (n := 400) (cd_bd37) rfl h
theorem cd_bd38 : cd_body 38 = cd_b38 := rfl
set_option maxRecDepth 1000000 in
set_option maxHeartbeats 8000000 in
theorem cd_q38_0 {a0 : Nat} {a1 : Nat} {M : cd_M} {r : cd_Ret} (h : (if cd_k M a0 = 3 then ((cd_cv (cd_c 18 [.ref a0] M)).bind fun m1 => cd_go 38 2 [.ref a0, .ref a1, .null, .null] [] m1) else none) = some r) : cd_go 38 0 [.ref a0, .ref a1, .null, .null] [] M = some r := cd_at (cuts := [2, 4, 9, 16, 21, 25, 30, 34, 39, 43, 48, 52, 56, 61, 63]) (n := 400) (cd_bd38) rfl h
set_option maxRecDepth 1000000 in
set_option maxHeartbeats 8000000 in
theorem cd_q38_2 {a0 : Nat} {a1 : Nat} {M : cd_M} {r : cd_Ret} (h : (cd_go 38 4 [.ref a0, .ref a1, .int 0, .null] [] M) = some r) : cd_go 38 2 [.ref a0, .ref a1, .null, .null] [] M = some r := cd_at (cuts := [2, 4, 9, 16, 21, 25, 30, 34, 39, 43, 48, 52, 56, 61, 63]) (n := 400) (cd_bd38) rfl h
set_option maxRecDepth 1000000 in
set_option maxHeartbeats 8000000 in
theorem cd_q38_4 {a0 : Nat} {a1 : Nat} {x2 : Int32} {w3 : Value} {M : cd_M} {r : cd_Ret} (h : (if x2 < 500 then (if cd_k M a1 = 4 then ((cd_ci (cd_c 19 [.ref a1] M)).bind fun q1 => cd_go 38 9 [.ref a0, .ref a1, .int x2, w3] [.int q1.1] q1.2) else none) else some (none, M)) = some r) : cd_go 38 4 [.ref a0, .ref a1, .int x2, w3] [] M = some r := cd_at (cuts := [2, 4, 9, 16, 21, 25, 30, 34, 39, 43, 48, 52, 56, 61, 63]) (n := 400) (cd_bd38) rfl h
set_option maxRecDepth 1000000 in
set_option maxHeartbeats 8000000 in
theorem cd_q38_9 {a0 : Nat} {a1 : Nat} {x2 : Int32} {w3 : Value} {s0 : Int32} {M : cd_M} {r : cd_Ret} (h : (if s0 = 0 then (some (none, M)) else if cd_k M a1 = 4 then (if cd_k M a1 = 4 then ((cd_ci (cd_c 21 [.ref a1, .ref 1000] M)).bind fun q1 => cd_go 38 16 [.ref a0, .ref a1, .int x2, .int (cd_I M a1 4)] [.int q1.1] q1.2) else none) else none) = some r) : cd_go 38 9 [.ref a0, .ref a1, .int x2, w3] [.int s0] M = some r := cd_at (cuts := [2, 4, 9, 16, 21, 25, 30, 34, 39, 43, 48, 52, 56, 61, 63]) (n := 400) (cd_bd38) rfl h
set_option maxRecDepth 1000000 in
set_option maxHeartbeats 8000000 in
theorem cd_q38_16 {a0 : Nat} {a1 : Nat} {x2 : Int32} {x3 : Int32} {s0 : Int32} {M : cd_M} {r : cd_Ret} (h : (if s0 = 0 then (if cd_k M a1 = 4 then ((cd_ci (cd_c 21 [.ref a1, .ref 1001] M)).bind fun q1 => cd_go 38 25 [.ref a0, .ref a1, .int x2, .int x3] [.int q1.1] q1.2) else none) else if cd_k M a0 = 3 then ((cd_cv (cd_c 25 [.ref a0, .ref a1, .int x3] M)).bind fun m2 => cd_go 38 21 [.ref a0, .ref a1, .int x2, .int x3] [] m2) else none) = some r) : cd_go 38 16 [.ref a0, .ref a1, .int x2, .int x3] [.int s0] M = some r := cd_at (cuts := [2, 4, 9, 16, 21, 25, 30, 34, 39, 43, 48, 52, 56, 61, 63]) (n := 400) (cd_bd38) rfl h
set_option maxRecDepth 1000000 in
set_option maxHeartbeats 8000000 in
theorem cd_q38_21 {a0 : Nat} {a1 : Nat} {x2 : Int32} {x3 : Int32} {M : cd_M} {r : cd_Ret} (h : (cd_go 38 61 [.ref a0, .ref a1, .int x2, .int x3] [] M) = some r) : cd_go 38 21 [.ref a0, .ref a1, .int x2, .int x3] [] M = some r := cd_at (cuts := [2, 4, 9, 16, 21, 25, 30, 34, 39, 43, 48, 52, 56, 61, 63]) (n := 400) (cd_bd38) rfl h
set_option maxRecDepth 1000000 in
set_option maxHeartbeats 8000000 in
theorem cd_q38_25 {a0 : Nat} {a1 : Nat} {x2 : Int32} {x3 : Int32} {s0 : Int32} {M : cd_M} {r : cd_Ret} (h : (if s0 = 0 then (if cd_k M a1 = 4 then ((cd_ci (cd_c 21 [.ref a1, .ref 1002] M)).bind fun q1 => cd_go 38 34 [.ref a0, .ref a1, .int x2, .int x3] [.int q1.1] q1.2) else none) else if cd_k M a0 = 3 then ((cd_cv (cd_c 27 [.ref a0, .ref a1, .int x3] M)).bind fun m2 => cd_go 38 30 [.ref a0, .ref a1, .int x2, .int x3] [] m2) else none) = some r) : cd_go 38 25 [.ref a0, .ref a1, .int x2, .int x3] [.int s0] M = some r := cd_at (cuts := [2, 4, 9, 16, 21, 25, 30, 34, 39, 43, 48, 52, 56, 61, 63]) (n := 400) (cd_bd38) rfl h
set_option maxRecDepth 1000000 in
set_option maxHeartbeats 8000000 in
theorem cd_q38_30 {a0 : Nat} {a1 : Nat} {x2 : Int32} {x3 : Int32} {M : cd_M} {r : cd_Ret} (h : (cd_go 38 61 [.ref a0, .ref a1, .int x2, .int x3] [] M) = some r) : cd_go 38 30 [.ref a0, .ref a1, .int x2, .int x3] [] M = some r := cd_at (cuts := [2, 4, 9, 16, 21, 25, 30, 34, 39, 43, 48, 52, 56, 61, 63]) (n := 400) (cd_bd38) rfl h
set_option maxRecDepth 1000000 in
set_option maxHeartbeats 8000000 in
theorem cd_q38_34 {a0 : Nat} {a1 : Nat} {x2 : Int32} {x3 : Int32} {s0 : Int32} {M : cd_M} {r : cd_Ret} (h : (if s0 = 0 then (if cd_k M a1 = 4 then ((cd_ci (cd_c 21 [.ref a1, .ref 1008] M)).bind fun q1 => cd_go 38 43 [.ref a0, .ref a1, .int x2, .int x3] [.int q1.1] q1.2) else none) else if cd_k M a0 = 3 then ((cd_cv (cd_c 33 [.ref a0, .ref a1, .int x3] M)).bind fun m2 => cd_go 38 39 [.ref a0, .ref a1, .int x2, .int x3] [] m2) else none) = some r) : cd_go 38 34 [.ref a0, .ref a1, .int x2, .int x3] [.int s0] M = some r := cd_at (cuts := [2, 4, 9, 16, 21, 25, 30, 34, 39, 43, 48, 52, 56, 61, 63]) (n := 400) (cd_bd38) rfl h
set_option maxRecDepth 1000000 in
set_option maxHeartbeats 8000000 in
theorem cd_q38_39 {a0 : Nat} {a1 : Nat} {x2 : Int32} {x3 : Int32} {M : cd_M} {r : cd_Ret} (h : (cd_go 38 61 [.ref a0, .ref a1, .int x2, .int x3] [] M) = some r) : cd_go 38 39 [.ref a0, .ref a1, .int x2, .int x3] [] M = some r := cd_at (cuts := [2, 4, 9, 16, 21, 25, 30, 34, 39, 43, 48, 52, 56, 61, 63]) (n := 400) (cd_bd38) rfl h
set_option maxRecDepth 1000000 in
set_option maxHeartbeats 8000000 in
theorem cd_q38_43 {a0 : Nat} {a1 : Nat} {x2 : Int32} {x3 : Int32} {s0 : Int32} {M : cd_M} {r : cd_Ret} (h : (if s0 = 0 then (if cd_k M a1 = 4 then ((cd_ci (cd_c 21 [.ref a1, .ref 1009] M)).bind fun q1 => cd_go 38 52 [.ref a0, .ref a1, .int x2, .int x3] [.int q1.1] q1.2) else none) else if cd_k M a0 = 3 then ((cd_cv (cd_c 34 [.ref a0, .ref a1, .int x3] M)).bind fun m2 => cd_go 38 48 [.ref a0, .ref a1, .int x2, .int x3] [] m2) else none) = some r) : cd_go 38 43 [.ref a0, .ref a1, .int x2, .int x3] [.int s0] M = some r := cd_at (cuts := [2, 4, 9, 16, 21, 25, 30, 34, 39, 43, 48, 52, 56, 61, 63]) (n := 400) (cd_bd38) rfl h
set_option maxRecDepth 1000000 in
set_option maxHeartbeats 8000000 in
theorem cd_q38_48 {a0 : Nat} {a1 : Nat} {x2 : Int32} {x3 : Int32} {M : cd_M} {r : cd_Ret} (h : (cd_go 38 61 [.ref a0, .ref a1, .int x2, .int x3] [] M) = some r) : cd_go 38 48 [.ref a0, .ref a1, .int x2, .int x3] [] M = some r := cd_at (cuts := [2, 4, 9, 16, 21, 25, 30, 34, 39, 43, 48, 52, 56, 61, 63]) (n := 400) (cd_bd38) rfl h
set_option maxRecDepth 1000000 in
set_option maxHeartbeats 8000000 in
theorem cd_q38_52 {a0 : Nat} {a1 : Nat} {x2 : Int32} {x3 : Int32} {s0 : Int32} {M : cd_M} {r : cd_Ret} (h : (if s0 = 0 then (if cd_k M a1 = 4 then ((cd_cv (cd_c 22 [.ref a1, .int 1, .int x3] M)).bind fun m1 => cd_go 38 61 [.ref a0, .ref a1, .int x2, .int x3] [] m1) else none) else if cd_k M a0 = 3 then ((cd_cv (cd_c 36 [.ref a0, .ref a1] M)).bind fun m2 => cd_go 38 56 [.ref a0, .ref a1, .int x2, .int x3] [] m2) else none) = some r) : cd_go 38 52 [.ref a0, .ref a1, .int x2, .int x3] [.int s0] M = some r := cd_at (cuts := [2, 4, 9, 16, 21, 25, 30, 34, 39, 43, 48, 52, 56, 61, 63]) (n := 400) (cd_bd38) rfl h
set_option maxRecDepth 1000000 in
set_option maxHeartbeats 8000000 in
theorem cd_q38_56 {a0 : Nat} {a1 : Nat} {x2 : Int32} {x3 : Int32} {M : cd_M} {r : cd_Ret} (h : (cd_go 38 61 [.ref a0, .ref a1, .int x2, .int x3] [] M) = some r) : cd_go 38 56 [.ref a0, .ref a1, .int x2, .int x3] [] M = some r := cd_at (cuts := [2, 4, 9, 16, 21, 25, 30, 34, 39, 43, 48, 52, 56, 61, 63]) (n := 400) (cd_bd38) rfl h
set_option maxRecDepth 1000000 in
set_option maxHeartbeats 8000000 in
theorem cd_q38_61 {a0 : Nat} {a1 : Nat} {x2 : Int32} {x3 : Int32} {M : cd_M} {r : cd_Ret} (h : (if cd_k M a1 = 4 then ((cd_cv (cd_c 37 [.ref a1] M)).bind fun m1 => cd_go 38 63 [.ref a0, .ref a1, .int x2, .int x3] [] m1) else none) = some r) : cd_go 38 61 [.ref a0, .ref a1, .int x2, .int x3] [] M = some r := cd_at (cuts := [2, 4, 9, 16, 21, 25, 30, 34, 39, 43, 48, 52, 56, 61, 63]) (n := 400) (cd_bd38) rfl h
set_option maxRecDepth 1000000 in
set_option maxHeartbeats 8000000 in
theorem cd_q38_63 {a0 : Nat} {a1 : Nat} {x2 : Int32} {x3 : Int32} {M : cd_M} {r : cd_Ret} (h : (cd_go 38 4 [.ref a0, .ref a1, .int (x2 + 1), .int x3] [] M) = some r) : cd_go 38 63 [.ref a0, .ref a1, .int x2, .int x3] [] M = some r := cd_at (cuts := [2, 4, 9, 16, 21, 25, 30, 34, 39, 43, 48, 52, 56, 61, 63]) (n := 400) (cd_bd38) rfl h
theorem cd_bd39 : cd_body 39 = cd_b39 := rfl
set_option maxRecDepth 1000000 in
set_option maxHeartbeats 8000000 in
theorem cd_q39_0 {a0 : Nat} {a1 : Nat} {M : cd_M} {r : cd_Ret} (h : (if cd_k M a1 = 6 then (if cd_k M a0 = 6 then (if cd_k M (cd_R M a1 0) = 20 ∧ cd_k M (cd_R M a0 0) = 20 ∧ ¬ (0 : Int32) < 0 ∧ ¬ (0 : Int32) < 0 ∧ ¬ (8 : Int32) < 0 ∧ (0 : Int32).toNatClampNeg + (8 : Int32).toNatClampNeg ≤ cd_n M (cd_R M a1 0) ∧ (0 : Int32).toNatClampNeg + (8 : Int32).toNatClampNeg ≤ cd_n M (cd_R M a0 0) then (let m1 : cd_M := (cd_cp M (cd_R M a1 0) (0 : Int32).toNatClampNeg (cd_R M a0 0) (0 : Int32).toNatClampNeg (8 : Int32).toNatClampNeg); if cd_k M a1 = 6 then (if cd_k M a0 = 6 then (if cd_k M (cd_R m1 a1 3) = 20 ∧ cd_k M (cd_R m1 a0 3) = 20 ∧ ¬ (0 : Int32) < 0 ∧ ¬ (0 : Int32) < 0 ∧ ¬ (12 : Int32) < 0 ∧ (0 : Int32).toNatClampNeg + (12 : Int32).toNatClampNeg ≤ cd_n M (cd_R m1 a1 3) ∧ (0 : Int32).toNatClampNeg + (12 : Int32).toNatClampNeg ≤ cd_n M (cd_R m1 a0 3) then (let m2 : cd_M := (cd_cp m1 (cd_R m1 a1 3) (0 : Int32).toNatClampNeg (cd_R m1 a0 3) (0 : Int32).toNatClampNeg (12 : Int32).toNatClampNeg); if cd_k M a1 = 6 then (if cd_k M a0 = 6 then (if cd_k M (cd_R m2 a1 4) = 20 ∧ cd_k M (cd_R m2 a0 4) = 20 ∧ ¬ (0 : Int32) < 0 ∧ ¬ (0 : Int32) < 0 ∧ ¬ (12 : Int32) < 0 ∧ (0 : Int32).toNatClampNeg + (12 : Int32).toNatClampNeg ≤ cd_n M (cd_R m2 a1 4) ∧ (0 : Int32).toNatClampNeg + (12 : Int32).toNatClampNeg ≤ cd_n M (cd_R m2 a0 4) then (let m3 : cd_M := (cd_cp m2 (cd_R m2 a1 4) (0 : Int32).toNatClampNeg (cd_R m2 a0 4) (0 : Int32).toNatClampNeg (12 : Int32).toNatClampNeg); if cd_k M a1 = 6 then (if cd_k M a0 = 6 then (if cd_k M a1 = 6 then (if cd_k M a0 = 6 then (some (none, (cd_wI (cd_wI m3 a0 1 (cd_I m3 a1 1)) a0 2 (cd_I (cd_wI m3 a0 1 (cd_I m3 a1 1)) a1 2)))) else none) else none) else none) else none) else none) else none) else none) else none) else none) else none) else none) else none) else none) = some r) : cd_go 39 0 [.ref a0, .ref a1] [] M = some r := cd_at (cuts := []) (n := 400) (cd_bd39) rfl h
theorem cd_bd40 : cd_body 40 = cd_b40 := rfl
set_option maxRecDepth 1000000 in
set_option maxHeartbeats 8000000 in
theorem cd_q40_0 {a0 : Nat} {M : cd_M} {r : cd_Ret} (h : (if cd_k M a0 = 0 then ((cd_cv (cd_c 2 [.ref (cd_R M a0 1), .int (-1)] M)).bind fun m1 => cd_go 40 4 [.ref a0] [] m1) else none) = some r) : cd_go 40 0 [.ref a0] [] M = some r := cd_at (cuts := [4]) (n := 400) (cd_bd40) rfl h
set_option maxRecDepth 1000000 in
set_option maxHeartbeats 8000000 in
theorem cd_q40_4 {a0 : Nat} {M : cd_M} {r : cd_Ret} (h : (some (none, M)) = some r) : cd_go 40 4 [.ref a0] [] M = some r := cd_at (cuts := [4]) (n := 400) (cd_bd40) rfl h
theorem cd_bd41 : cd_body 41 = cd_b41 := rfl
set_option maxRecDepth 1000000 in
set_option maxHeartbeats 8000000 in
theorem cd_q41_0 {a0 : Nat} {M : cd_M} {r : cd_Ret} (h : (if cd_k M a0 = 8 then (some (none, (cd_wI M a0 8 0))) else none) = some r) : cd_go 41 0 [.ref a0] [] M = some r := cd_at (cuts := []) (n := 400) (cd_bd41) rfl h
