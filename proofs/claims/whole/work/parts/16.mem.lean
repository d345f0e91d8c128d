/-! ===== the memory once the two objects are made ===== -/
def cd_KL (L : Nat) : List (Nat × Nat) := [(99, 0), (25, L), (10, 17), (4, 9), (20, 500), (5, 7), (0, 8), (21, 256), (20, 256), (20, 3072), (20, 3072), (20, 3072), (20, 256), (20, 256), (1, 3), (20, 192), (20, 192), (20, 64), (20, 8), (20, 8), (20, 8), (8, 13), (6, 5), (20, 8), (20, 12), (20, 12), (2, 3), (20, 60), (20, 60), (22, 128), (20, 7), (20, 7), (7, 7), (20, 256), (20, 256), (22, 256), (20, 8), (20, 8), (1, 3), (20, 192), (20, 192), (20, 64), (2, 3), (20, 60), (20, 60), (6, 5), (20, 8), (20, 12), (20, 12), (23, 2), (6, 5), (20, 8), (20, 12), (20, 12), (6, 5), (20, 8), (20, 12), (20, 12), (22, 2), (20, 2), (24, 4), (9, 5), (9, 5), (9, 5), (9, 5), (9, 5), (3, 20), (20, 8), (20, 8), (20, 8), (20, 8), (20, 3), (20, 3), (20, 3), (20, 3), (20, 3), (21, 3), (20, 12), (20, 12), (6, 5), (20, 8), (20, 12), (20, 12), (3, 20), (20, 8), (20, 8), (20, 8), (20, 8), (20, 3), (20, 3), (20, 3), (20, 3), (20, 3), (21, 3), (20, 12), (20, 12), (6, 5), (20, 8), (20, 12), (20, 12), (11, 57), (20, 8), (20, 8), (20, 8), (20, 8), (20, 8), (22, 8), (20, 15), (20, 12), (20, 12), (20, 12), (20, 12), (22, 12), (20, 500), (20, 40), (20, 15), (20, 48), (20, 12), (20, 12), (20, 12), (20, 60), (20, 60), (20, 60), (20, 60), (20, 64), (20, 240), (22, 2), (22, 4096), (22, 4096), (22, 256), (22, 256), (22, 256), (20, 20)]
def cd_RT : List (List Nat) := [[], [], [3, 5, 21, 32, 38, 42, 45, 49, 58, 59, 60, 65, 66, 83], [4], [], [6, 18, 19, 20], [7, 8, 9, 10, 11, 12, 13, 14], [], [], [], [], [], [], [], [15, 16, 17], [], [], [], [], [], [], [22, 26, 29, 30, 31], [23, 0, 0, 24, 25], [], [], [], [27, 28], [], [], [], [], [], [33, 34, 35, 36, 37], [], [], [], [], [], [39, 40, 41], [], [], [], [43, 44], [], [], [46, 0, 0, 47, 48], [], [], [], [50, 54], [51, 0, 0, 52, 53], [], [], [], [55, 0, 0, 56, 57], [], [], [], [], [], [61, 62, 63, 64], [], [], [], [], [], [0, 0, 0, 0, 67, 68, 69, 70, 71, 72, 73, 74, 75, 76, 77, 78, 0, 0, 0, 79], [], [], [], [], [], [], [], [], [], [], [], [], [80, 0, 0, 81, 82], [], [], [], [0, 0, 0, 0, 84, 85, 86, 87, 88, 89, 90, 91, 92, 93, 94, 95, 0, 0, 0, 96], [], [], [], [], [], [], [], [], [], [], [], [], [97, 0, 0, 98, 99], [], [], [], [0, 101, 102, 103, 104, 105, 106, 0, 107, 0, 108, 109, 110, 111, 112, 0, 0, 113, 0, 0, 0, 0, 0, 0, 0, 0, 114, 0, 115, 0, 116, 0, 0, 0, 0, 117, 118, 119, 0, 0, 0, 120, 121, 122, 123, 124, 125, 126, 0, 127, 128, 129, 130, 131, 0, 132], [], [], [], [], [], [], [], [], [], [], [], [], [], [], [], [], [], [], [], [], [], [], [], [], [], [], [], [], [], [], [], []]
def cd_ple (w : Bool) : Nat := bif w then 83 else 66
def cd_plr (w : Bool) : Nat := bif w then 66 else 83
def cd_RF (w : Bool) (a k : Nat) : Nat := bif Nat.beq a 2 then (bif Nat.beq k 12 then cd_ple w else bif Nat.beq k 13 then cd_plr w else (cd_RT.getD a []).getD k 0) else (cd_RT.getD a []).getD k 0
def cd_mm (L : Nat) (w : Bool) (I : Nat → Nat → Int32) (J : Nat → Nat → Int64) : cd_M := (cd_KL L, I, J, cd_RF w)
theorem cd_zwI {L : Nat} {w : Bool} {I : Nat → Nat → Int32} {J : Nat → Nat → Int64} {a k : Nat} {v : Int32} : cd_wI (cd_mm L w I J) a k v = cd_mm L w (cd_up I a k v) J := rfl
theorem cd_zwL {L : Nat} {w : Bool} {I : Nat → Nat → Int32} {J : Nat → Nat → Int64} {a k : Nat} {v : Int64} : cd_wL (cd_mm L w I J) a k v = cd_mm L w I (cd_up J a k v) := rfl
theorem cd_zI {L : Nat} {w : Bool} {I : Nat → Nat → Int32} {J : Nat → Nat → Int64} {a k : Nat} : (cd_mm L w I J).2.1 a k = I a k := rfl
theorem cd_zJ {L : Nat} {w : Bool} {I : Nat → Nat → Int32} {J : Nat → Nat → Int64} {a k : Nat} : (cd_mm L w I J).2.2.1 a k = J a k := rfl
def cd_cpI (I : Nat → Nat → Int32) (a i b j n : Nat) : Nat → Nat → Int32 := fun o => if o = b then va_cpy (I a) (I b) i j n else I o
theorem cd_zcp {L : Nat} {w : Bool} {I : Nat → Nat → Int32} {J : Nat → Nat → Int64} {a i b j n : Nat} : cd_cp (cd_mm L w I J) a i b j n = cd_mm L w (cd_cpI I a i b j n) J := rfl
theorem cd_zk_3 {L : Nat} {w : Bool} {I : Nat → Nat → Int32} {J : Nat → Nat → Int64} : cd_k (cd_mm L w I J) 3 = 4 := rfl
theorem cd_zR_3_0 {L : Nat} {w : Bool} {I : Nat → Nat → Int32} {J : Nat → Nat → Int64} : (cd_mm L w I J).2.2.2 3 0 = 4 := rfl
theorem cd_zk_4 {L : Nat} {w : Bool} {I : Nat → Nat → Int32} {J : Nat → Nat → Int64} : cd_k (cd_mm L w I J) 4 = 20 := rfl
theorem cd_zn_4 {L : Nat} {w : Bool} {I : Nat → Nat → Int32} {J : Nat → Nat → Int64} : cd_n (cd_mm L w I J) 4 = 500 := rfl
theorem cd_zk_2 {L : Nat} {w : Bool} {I : Nat → Nat → Int32} {J : Nat → Nat → Int64} : cd_k (cd_mm L w I J) 2 = 10 := rfl
theorem cd_zR_2_0 {L : Nat} {w : Bool} {I : Nat → Nat → Int32} {J : Nat → Nat → Int64} : (cd_mm L w I J).2.2.2 2 0 = 3 := rfl
theorem cd_zk_p0_66_83 {p : Nat} (hp : p = 66 ∨ p = 83) {L : Nat} {w : Bool} {I : Nat → Nat → Int32} {J : Nat → Nat → Int64} : cd_k (cd_mm L w I J) p = 3 := by rcases hp with rfl | rfl <;> rfl
theorem cd_zR_p0_66_83_19 {p : Nat} (hp : p = 66 ∨ p = 83) {L : Nat} {w : Bool} {I : Nat → Nat → Int32} {J : Nat → Nat → Int64} : (cd_mm L w I J).2.2.2 p 19 = (p + 13) := by rcases hp with rfl | rfl <;> rfl
theorem cd_zk_p13_66_83 {p : Nat} (hp : p = 66 ∨ p = 83) {L : Nat} {w : Bool} {I : Nat → Nat → Int32} {J : Nat → Nat → Int64} : cd_k (cd_mm L w I J) (p + 13) = 6 := by rcases hp with rfl | rfl <;> rfl
theorem cd_zk_s0_22_45_79_96 {s : Nat} (hs : s = 22 ∨ s = 45 ∨ s = 79 ∨ s = 96) {L : Nat} {w : Bool} {I : Nat → Nat → Int32} {J : Nat → Nat → Int64} : cd_k (cd_mm L w I J) s = 6 := by rcases hs with rfl | rfl | rfl | rfl <;> rfl
theorem cd_zR_s0_22_45_79_96_0 {s : Nat} (hs : s = 22 ∨ s = 45 ∨ s = 79 ∨ s = 96) {L : Nat} {w : Bool} {I : Nat → Nat → Int32} {J : Nat → Nat → Int64} : (cd_mm L w I J).2.2.2 s 0 = (s + 1) := by rcases hs with rfl | rfl | rfl | rfl <;> rfl
theorem cd_zk_s1_22_45_79_96 {s : Nat} (hs : s = 22 ∨ s = 45 ∨ s = 79 ∨ s = 96) {L : Nat} {w : Bool} {I : Nat → Nat → Int32} {J : Nat → Nat → Int64} : cd_k (cd_mm L w I J) (s + 1) = 20 := by rcases hs with rfl | rfl | rfl | rfl <;> rfl
theorem cd_zn_s1_22_45_79_96 {s : Nat} (hs : s = 22 ∨ s = 45 ∨ s = 79 ∨ s = 96) {L : Nat} {w : Bool} {I : Nat → Nat → Int32} {J : Nat → Nat → Int64} : cd_n (cd_mm L w I J) (s + 1) = 8 := by rcases hs with rfl | rfl | rfl | rfl <;> rfl
theorem cd_zR_p13_66_83_0 {p : Nat} (hp : p = 66 ∨ p = 83) {L : Nat} {w : Bool} {I : Nat → Nat → Int32} {J : Nat → Nat → Int64} : (cd_mm L w I J).2.2.2 (p + 13) 0 = (p + 14) := by rcases hp with rfl | rfl <;> rfl
theorem cd_zk_p14_66_83 {p : Nat} (hp : p = 66 ∨ p = 83) {L : Nat} {w : Bool} {I : Nat → Nat → Int32} {J : Nat → Nat → Int64} : cd_k (cd_mm L w I J) (p + 14) = 20 := by rcases hp with rfl | rfl <;> rfl
theorem cd_zn_p14_66_83 {p : Nat} (hp : p = 66 ∨ p = 83) {L : Nat} {w : Bool} {I : Nat → Nat → Int32} {J : Nat → Nat → Int64} : cd_n (cd_mm L w I J) (p + 14) = 8 := by rcases hp with rfl | rfl <;> rfl
theorem cd_zR_p0_66_83_4 {p : Nat} (hp : p = 66 ∨ p = 83) {L : Nat} {w : Bool} {I : Nat → Nat → Int32} {J : Nat → Nat → Int64} : (cd_mm L w I J).2.2.2 p 4 = (p + 1) := by rcases hp with rfl | rfl <;> rfl
theorem cd_zk_p1_66_83 {p : Nat} (hp : p = 66 ∨ p = 83) {L : Nat} {w : Bool} {I : Nat → Nat → Int32} {J : Nat → Nat → Int64} : cd_k (cd_mm L w I J) (p + 1) = 20 := by rcases hp with rfl | rfl <;> rfl
theorem cd_zn_p1_66_83 {p : Nat} (hp : p = 66 ∨ p = 83) {L : Nat} {w : Bool} {I : Nat → Nat → Int32} {J : Nat → Nat → Int64} : cd_n (cd_mm L w I J) (p + 1) = 8 := by rcases hp with rfl | rfl <;> rfl
theorem cd_zR_p0_66_83_5 {p : Nat} (hp : p = 66 ∨ p = 83) {L : Nat} {w : Bool} {I : Nat → Nat → Int32} {J : Nat → Nat → Int64} : (cd_mm L w I J).2.2.2 p 5 = (p + 2) := by rcases hp with rfl | rfl <;> rfl
theorem cd_zk_p2_66_83 {p : Nat} (hp : p = 66 ∨ p = 83) {L : Nat} {w : Bool} {I : Nat → Nat → Int32} {J : Nat → Nat → Int64} : cd_k (cd_mm L w I J) (p + 2) = 20 := by rcases hp with rfl | rfl <;> rfl
theorem cd_zn_p2_66_83 {p : Nat} (hp : p = 66 ∨ p = 83) {L : Nat} {w : Bool} {I : Nat → Nat → Int32} {J : Nat → Nat → Int64} : cd_n (cd_mm L w I J) (p + 2) = 8 := by rcases hp with rfl | rfl <;> rfl
theorem cd_zR_p0_66_83_6 {p : Nat} (hp : p = 66 ∨ p = 83) {L : Nat} {w : Bool} {I : Nat → Nat → Int32} {J : Nat → Nat → Int64} : (cd_mm L w I J).2.2.2 p 6 = (p + 3) := by rcases hp with rfl | rfl <;> rfl
theorem cd_zk_p3_66_83 {p : Nat} (hp : p = 66 ∨ p = 83) {L : Nat} {w : Bool} {I : Nat → Nat → Int32} {J : Nat → Nat → Int64} : cd_k (cd_mm L w I J) (p + 3) = 20 := by rcases hp with rfl | rfl <;> rfl
theorem cd_zn_p3_66_83 {p : Nat} (hp : p = 66 ∨ p = 83) {L : Nat} {w : Bool} {I : Nat → Nat → Int32} {J : Nat → Nat → Int64} : cd_n (cd_mm L w I J) (p + 3) = 8 := by rcases hp with rfl | rfl <;> rfl
theorem cd_zR_p0_66_83_7 {p : Nat} (hp : p = 66 ∨ p = 83) {L : Nat} {w : Bool} {I : Nat → Nat → Int32} {J : Nat → Nat → Int64} : (cd_mm L w I J).2.2.2 p 7 = (p + 4) := by rcases hp with rfl | rfl <;> rfl
theorem cd_zk_p4_66_83 {p : Nat} (hp : p = 66 ∨ p = 83) {L : Nat} {w : Bool} {I : Nat → Nat → Int32} {J : Nat → Nat → Int64} : cd_k (cd_mm L w I J) (p + 4) = 20 := by rcases hp with rfl | rfl <;> rfl
theorem cd_zn_p4_66_83 {p : Nat} (hp : p = 66 ∨ p = 83) {L : Nat} {w : Bool} {I : Nat → Nat → Int32} {J : Nat → Nat → Int64} : cd_n (cd_mm L w I J) (p + 4) = 8 := by rcases hp with rfl | rfl <;> rfl
theorem cd_zR_p0_66_83_13 {p : Nat} (hp : p = 66 ∨ p = 83) {L : Nat} {w : Bool} {I : Nat → Nat → Int32} {J : Nat → Nat → Int64} : (cd_mm L w I J).2.2.2 p 13 = (p + 10) := by rcases hp with rfl | rfl <;> rfl
theorem cd_zk_p10_66_83 {p : Nat} (hp : p = 66 ∨ p = 83) {L : Nat} {w : Bool} {I : Nat → Nat → Int32} {J : Nat → Nat → Int64} : cd_k (cd_mm L w I J) (p + 10) = 21 := by rcases hp with rfl | rfl <;> rfl
theorem cd_zn_p10_66_83 {p : Nat} (hp : p = 66 ∨ p = 83) {L : Nat} {w : Bool} {I : Nat → Nat → Int32} {J : Nat → Nat → Int64} : cd_n (cd_mm L w I J) (p + 10) = 3 := by rcases hp with rfl | rfl <;> rfl
theorem cd_zR_p0_66_83_10 {p : Nat} (hp : p = 66 ∨ p = 83) {L : Nat} {w : Bool} {I : Nat → Nat → Int32} {J : Nat → Nat → Int64} : (cd_mm L w I J).2.2.2 p 10 = (p + 7) := by rcases hp with rfl | rfl <;> rfl
theorem cd_zk_p7_66_83 {p : Nat} (hp : p = 66 ∨ p = 83) {L : Nat} {w : Bool} {I : Nat → Nat → Int32} {J : Nat → Nat → Int64} : cd_k (cd_mm L w I J) (p + 7) = 20 := by rcases hp with rfl | rfl <;> rfl
theorem cd_zn_p7_66_83 {p : Nat} (hp : p = 66 ∨ p = 83) {L : Nat} {w : Bool} {I : Nat → Nat → Int32} {J : Nat → Nat → Int64} : cd_n (cd_mm L w I J) (p + 7) = 3 := by rcases hp with rfl | rfl <;> rfl
theorem cd_zR_p0_66_83_8 {p : Nat} (hp : p = 66 ∨ p = 83) {L : Nat} {w : Bool} {I : Nat → Nat → Int32} {J : Nat → Nat → Int64} : (cd_mm L w I J).2.2.2 p 8 = (p + 5) := by rcases hp with rfl | rfl <;> rfl
theorem cd_zk_p5_66_83 {p : Nat} (hp : p = 66 ∨ p = 83) {L : Nat} {w : Bool} {I : Nat → Nat → Int32} {J : Nat → Nat → Int64} : cd_k (cd_mm L w I J) (p + 5) = 20 := by rcases hp with rfl | rfl <;> rfl
theorem cd_zn_p5_66_83 {p : Nat} (hp : p = 66 ∨ p = 83) {L : Nat} {w : Bool} {I : Nat → Nat → Int32} {J : Nat → Nat → Int64} : cd_n (cd_mm L w I J) (p + 5) = 3 := by rcases hp with rfl | rfl <;> rfl
theorem cd_zR_p0_66_83_9 {p : Nat} (hp : p = 66 ∨ p = 83) {L : Nat} {w : Bool} {I : Nat → Nat → Int32} {J : Nat → Nat → Int64} : (cd_mm L w I J).2.2.2 p 9 = (p + 6) := by rcases hp with rfl | rfl <;> rfl
theorem cd_zk_p6_66_83 {p : Nat} (hp : p = 66 ∨ p = 83) {L : Nat} {w : Bool} {I : Nat → Nat → Int32} {J : Nat → Nat → Int64} : cd_k (cd_mm L w I J) (p + 6) = 20 := by rcases hp with rfl | rfl <;> rfl
theorem cd_zn_p6_66_83 {p : Nat} (hp : p = 66 ∨ p = 83) {L : Nat} {w : Bool} {I : Nat → Nat → Int32} {J : Nat → Nat → Int64} : cd_n (cd_mm L w I J) (p + 6) = 3 := by rcases hp with rfl | rfl <;> rfl
theorem cd_zR_p0_66_83_11 {p : Nat} (hp : p = 66 ∨ p = 83) {L : Nat} {w : Bool} {I : Nat → Nat → Int32} {J : Nat → Nat → Int64} : (cd_mm L w I J).2.2.2 p 11 = (p + 8) := by rcases hp with rfl | rfl <;> rfl
theorem cd_zk_p8_66_83 {p : Nat} (hp : p = 66 ∨ p = 83) {L : Nat} {w : Bool} {I : Nat → Nat → Int32} {J : Nat → Nat → Int64} : cd_k (cd_mm L w I J) (p + 8) = 20 := by rcases hp with rfl | rfl <;> rfl
theorem cd_zn_p8_66_83 {p : Nat} (hp : p = 66 ∨ p = 83) {L : Nat} {w : Bool} {I : Nat → Nat → Int32} {J : Nat → Nat → Int64} : cd_n (cd_mm L w I J) (p + 8) = 3 := by rcases hp with rfl | rfl <;> rfl
theorem cd_zR_p0_66_83_12 {p : Nat} (hp : p = 66 ∨ p = 83) {L : Nat} {w : Bool} {I : Nat → Nat → Int32} {J : Nat → Nat → Int64} : (cd_mm L w I J).2.2.2 p 12 = (p + 9) := by rcases hp with rfl | rfl <;> rfl
theorem cd_zk_p9_66_83 {p : Nat} (hp : p = 66 ∨ p = 83) {L : Nat} {w : Bool} {I : Nat → Nat → Int32} {J : Nat → Nat → Int64} : cd_k (cd_mm L w I J) (p + 9) = 20 := by rcases hp with rfl | rfl <;> rfl
theorem cd_zn_p9_66_83 {p : Nat} (hp : p = 66 ∨ p = 83) {L : Nat} {w : Bool} {I : Nat → Nat → Int32} {J : Nat → Nat → Int64} : cd_n (cd_mm L w I J) (p + 9) = 3 := by rcases hp with rfl | rfl <;> rfl
theorem cd_zR_p0_66_83_14 {p : Nat} (hp : p = 66 ∨ p = 83) {L : Nat} {w : Bool} {I : Nat → Nat → Int32} {J : Nat → Nat → Int64} : (cd_mm L w I J).2.2.2 p 14 = (p + 11) := by rcases hp with rfl | rfl <;> rfl
theorem cd_zk_p11_66_83 {p : Nat} (hp : p = 66 ∨ p = 83) {L : Nat} {w : Bool} {I : Nat → Nat → Int32} {J : Nat → Nat → Int64} : cd_k (cd_mm L w I J) (p + 11) = 20 := by rcases hp with rfl | rfl <;> rfl
theorem cd_zn_p11_66_83 {p : Nat} (hp : p = 66 ∨ p = 83) {L : Nat} {w : Bool} {I : Nat → Nat → Int32} {J : Nat → Nat → Int64} : cd_n (cd_mm L w I J) (p + 11) = 12 := by rcases hp with rfl | rfl <;> rfl
theorem cd_zR_p0_66_83_15 {p : Nat} (hp : p = 66 ∨ p = 83) {L : Nat} {w : Bool} {I : Nat → Nat → Int32} {J : Nat → Nat → Int64} : (cd_mm L w I J).2.2.2 p 15 = (p + 12) := by rcases hp with rfl | rfl <;> rfl
theorem cd_zk_p12_66_83 {p : Nat} (hp : p = 66 ∨ p = 83) {L : Nat} {w : Bool} {I : Nat → Nat → Int32} {J : Nat → Nat → Int64} : cd_k (cd_mm L w I J) (p + 12) = 20 := by rcases hp with rfl | rfl <;> rfl
theorem cd_zn_p12_66_83 {p : Nat} (hp : p = 66 ∨ p = 83) {L : Nat} {w : Bool} {I : Nat → Nat → Int32} {J : Nat → Nat → Int64} : cd_n (cd_mm L w I J) (p + 12) = 12 := by rcases hp with rfl | rfl <;> rfl
theorem cd_zk_s0_22_79_96 {s : Nat} (hs : s = 22 ∨ s = 79 ∨ s = 96) {L : Nat} {w : Bool} {I : Nat → Nat → Int32} {J : Nat → Nat → Int64} : cd_k (cd_mm L w I J) s = 6 := by rcases hs with rfl | rfl | rfl <;> rfl
theorem cd_zR_s0_22_79_96_3 {s : Nat} (hs : s = 22 ∨ s = 79 ∨ s = 96) {L : Nat} {w : Bool} {I : Nat → Nat → Int32} {J : Nat → Nat → Int64} : (cd_mm L w I J).2.2.2 s 3 = (s + 2) := by rcases hs with rfl | rfl | rfl <;> rfl
theorem cd_zk_s2_22_79_96 {s : Nat} (hs : s = 22 ∨ s = 79 ∨ s = 96) {L : Nat} {w : Bool} {I : Nat → Nat → Int32} {J : Nat → Nat → Int64} : cd_k (cd_mm L w I J) (s + 2) = 20 := by rcases hs with rfl | rfl | rfl <;> rfl
theorem cd_zn_s2_22_79_96 {s : Nat} (hs : s = 22 ∨ s = 79 ∨ s = 96) {L : Nat} {w : Bool} {I : Nat → Nat → Int32} {J : Nat → Nat → Int64} : cd_n (cd_mm L w I J) (s + 2) = 12 := by rcases hs with rfl | rfl | rfl <;> rfl
theorem cd_zR_s0_22_79_96_4 {s : Nat} (hs : s = 22 ∨ s = 79 ∨ s = 96) {L : Nat} {w : Bool} {I : Nat → Nat → Int32} {J : Nat → Nat → Int64} : (cd_mm L w I J).2.2.2 s 4 = (s + 3) := by rcases hs with rfl | rfl | rfl <;> rfl
theorem cd_zk_s3_22_79_96 {s : Nat} (hs : s = 22 ∨ s = 79 ∨ s = 96) {L : Nat} {w : Bool} {I : Nat → Nat → Int32} {J : Nat → Nat → Int64} : cd_k (cd_mm L w I J) (s + 3) = 20 := by rcases hs with rfl | rfl | rfl <;> rfl
theorem cd_zn_s3_22_79_96 {s : Nat} (hs : s = 22 ∨ s = 79 ∨ s = 96) {L : Nat} {w : Bool} {I : Nat → Nat → Int32} {J : Nat → Nat → Int64} : cd_n (cd_mm L w I J) (s + 3) = 12 := by rcases hs with rfl | rfl | rfl <;> rfl
theorem cd_zk_u0_45_50_54_79_96 {u : Nat} (hu : u = 45 ∨ u = 50 ∨ u = 54 ∨ u = 79 ∨ u = 96) {L : Nat} {w : Bool} {I : Nat → Nat → Int32} {J : Nat → Nat → Int64} : cd_k (cd_mm L w I J) u = 6 := by rcases hu with rfl | rfl | rfl | rfl | rfl <;> rfl
theorem cd_zR_u0_45_50_54_79_96_0 {u : Nat} (hu : u = 45 ∨ u = 50 ∨ u = 54 ∨ u = 79 ∨ u = 96) {L : Nat} {w : Bool} {I : Nat → Nat → Int32} {J : Nat → Nat → Int64} : (cd_mm L w I J).2.2.2 u 0 = (u + 1) := by rcases hu with rfl | rfl | rfl | rfl | rfl <;> rfl
theorem cd_zk_s0_22_45_50_54 {s : Nat} (hs : s = 22 ∨ s = 45 ∨ s = 50 ∨ s = 54) {L : Nat} {w : Bool} {I : Nat → Nat → Int32} {J : Nat → Nat → Int64} : cd_k (cd_mm L w I J) s = 6 := by rcases hs with rfl | rfl | rfl | rfl <;> rfl
theorem cd_zR_s0_22_45_50_54_0 {s : Nat} (hs : s = 22 ∨ s = 45 ∨ s = 50 ∨ s = 54) {L : Nat} {w : Bool} {I : Nat → Nat → Int32} {J : Nat → Nat → Int64} : (cd_mm L w I J).2.2.2 s 0 = (s + 1) := by rcases hs with rfl | rfl | rfl | rfl <;> rfl
theorem cd_zk_u1_45_50_54_79_96 {u : Nat} (hu : u = 45 ∨ u = 50 ∨ u = 54 ∨ u = 79 ∨ u = 96) {L : Nat} {w : Bool} {I : Nat → Nat → Int32} {J : Nat → Nat → Int64} : cd_k (cd_mm L w I J) (u + 1) = 20 := by rcases hu with rfl | rfl | rfl | rfl | rfl <;> rfl
theorem cd_zk_s1_22_45_50_54 {s : Nat} (hs : s = 22 ∨ s = 45 ∨ s = 50 ∨ s = 54) {L : Nat} {w : Bool} {I : Nat → Nat → Int32} {J : Nat → Nat → Int64} : cd_k (cd_mm L w I J) (s + 1) = 20 := by rcases hs with rfl | rfl | rfl | rfl <;> rfl
theorem cd_zn_u1_45_50_54_79_96 {u : Nat} (hu : u = 45 ∨ u = 50 ∨ u = 54 ∨ u = 79 ∨ u = 96) {L : Nat} {w : Bool} {I : Nat → Nat → Int32} {J : Nat → Nat → Int64} : cd_n (cd_mm L w I J) (u + 1) = 8 := by rcases hu with rfl | rfl | rfl | rfl | rfl <;> rfl
theorem cd_zn_s1_22_45_50_54 {s : Nat} (hs : s = 22 ∨ s = 45 ∨ s = 50 ∨ s = 54) {L : Nat} {w : Bool} {I : Nat → Nat → Int32} {J : Nat → Nat → Int64} : cd_n (cd_mm L w I J) (s + 1) = 8 := by rcases hs with rfl | rfl | rfl | rfl <;> rfl
theorem cd_zR_u0_45_50_54_79_96_3 {u : Nat} (hu : u = 45 ∨ u = 50 ∨ u = 54 ∨ u = 79 ∨ u = 96) {L : Nat} {w : Bool} {I : Nat → Nat → Int32} {J : Nat → Nat → Int64} : (cd_mm L w I J).2.2.2 u 3 = (u + 2) := by rcases hu with rfl | rfl | rfl | rfl | rfl <;> rfl
theorem cd_zR_s0_22_45_50_54_3 {s : Nat} (hs : s = 22 ∨ s = 45 ∨ s = 50 ∨ s = 54) {L : Nat} {w : Bool} {I : Nat → Nat → Int32} {J : Nat → Nat → Int64} : (cd_mm L w I J).2.2.2 s 3 = (s + 2) := by rcases hs with rfl | rfl | rfl | rfl <;> rfl
theorem cd_zk_u2_45_50_54_79_96 {u : Nat} (hu : u = 45 ∨ u = 50 ∨ u = 54 ∨ u = 79 ∨ u = 96) {L : Nat} {w : Bool} {I : Nat → Nat → Int32} {J : Nat → Nat → Int64} : cd_k (cd_mm L w I J) (u + 2) = 20 := by rcases hu with rfl | rfl | rfl | rfl | rfl <;> rfl
theorem cd_zk_s2_22_45_50_54 {s : Nat} (hs : s = 22 ∨ s = 45 ∨ s = 50 ∨ s = 54) {L : Nat} {w : Bool} {I : Nat → Nat → Int32} {J : Nat → Nat → Int64} : cd_k (cd_mm L w I J) (s + 2) = 20 := by rcases hs with rfl | rfl | rfl | rfl <;> rfl
theorem cd_zn_u2_45_50_54_79_96 {u : Nat} (hu : u = 45 ∨ u = 50 ∨ u = 54 ∨ u = 79 ∨ u = 96) {L : Nat} {w : Bool} {I : Nat → Nat → Int32} {J : Nat → Nat → Int64} : cd_n (cd_mm L w I J) (u + 2) = 12 := by rcases hu with rfl | rfl | rfl | rfl | rfl <;> rfl
theorem cd_zn_s2_22_45_50_54 {s : Nat} (hs : s = 22 ∨ s = 45 ∨ s = 50 ∨ s = 54) {L : Nat} {w : Bool} {I : Nat → Nat → Int32} {J : Nat → Nat → Int64} : cd_n (cd_mm L w I J) (s + 2) = 12 := by rcases hs with rfl | rfl | rfl | rfl <;> rfl
theorem cd_zR_u0_45_50_54_79_96_4 {u : Nat} (hu : u = 45 ∨ u = 50 ∨ u = 54 ∨ u = 79 ∨ u = 96) {L : Nat} {w : Bool} {I : Nat → Nat → Int32} {J : Nat → Nat → Int64} : (cd_mm L w I J).2.2.2 u 4 = (u + 3) := by rcases hu with rfl | rfl | rfl | rfl | rfl <;> rfl
theorem cd_zR_s0_22_45_50_54_4 {s : Nat} (hs : s = 22 ∨ s = 45 ∨ s = 50 ∨ s = 54) {L : Nat} {w : Bool} {I : Nat → Nat → Int32} {J : Nat → Nat → Int64} : (cd_mm L w I J).2.2.2 s 4 = (s + 3) := by rcases hs with rfl | rfl | rfl | rfl <;> rfl
theorem cd_zk_u3_45_50_54_79_96 {u : Nat} (hu : u = 45 ∨ u = 50 ∨ u = 54 ∨ u = 79 ∨ u = 96) {L : Nat} {w : Bool} {I : Nat → Nat → Int32} {J : Nat → Nat → Int64} : cd_k (cd_mm L w I J) (u + 3) = 20 := by rcases hu with rfl | rfl | rfl | rfl | rfl <;> rfl
theorem cd_zk_s3_22_45_50_54 {s : Nat} (hs : s = 22 ∨ s = 45 ∨ s = 50 ∨ s = 54) {L : Nat} {w : Bool} {I : Nat → Nat → Int32} {J : Nat → Nat → Int64} : cd_k (cd_mm L w I J) (s + 3) = 20 := by rcases hs with rfl | rfl | rfl | rfl <;> rfl
theorem cd_zn_u3_45_50_54_79_96 {u : Nat} (hu : u = 45 ∨ u = 50 ∨ u = 54 ∨ u = 79 ∨ u = 96) {L : Nat} {w : Bool} {I : Nat → Nat → Int32} {J : Nat → Nat → Int64} : cd_n (cd_mm L w I J) (u + 3) = 12 := by rcases hu with rfl | rfl | rfl | rfl | rfl <;> rfl
theorem cd_zn_s3_22_45_50_54 {s : Nat} (hs : s = 22 ∨ s = 45 ∨ s = 50 ∨ s = 54) {L : Nat} {w : Bool} {I : Nat → Nat → Int32} {J : Nat → Nat → Int64} : cd_n (cd_mm L w I J) (s + 3) = 12 := by rcases hs with rfl | rfl | rfl | rfl <;> rfl
theorem cd_zk_6 {L : Nat} {w : Bool} {I : Nat → Nat → Int32} {J : Nat → Nat → Int64} : cd_k (cd_mm L w I J) 6 = 0 := rfl
theorem cd_zR_6_1 {L : Nat} {w : Bool} {I : Nat → Nat → Int32} {J : Nat → Nat → Int64} : (cd_mm L w I J).2.2.2 6 1 = 8 := rfl
theorem cd_zk_21 {L : Nat} {w : Bool} {I : Nat → Nat → Int32} {J : Nat → Nat → Int64} : cd_k (cd_mm L w I J) 21 = 8 := rfl
theorem cd_zR_2_13 {L : Nat} {w : Bool} {I : Nat → Nat → Int32} {J : Nat → Nat → Int64} : (cd_mm L w I J).2.2.2 2 13 = (cd_plr w) := rfl
theorem cd_zk_r0_ {L : Nat} {w : Bool} {I : Nat → Nat → Int32} {J : Nat → Nat → Int64} : cd_k (cd_mm L w I J) (cd_plr w) = 3 := by cases w <;> rfl
theorem cd_zR_2_12 {L : Nat} {w : Bool} {I : Nat → Nat → Int32} {J : Nat → Nat → Int64} : (cd_mm L w I J).2.2.2 2 12 = (cd_ple w) := rfl
theorem cd_zR_2_5 {L : Nat} {w : Bool} {I : Nat → Nat → Int32} {J : Nat → Nat → Int64} : (cd_mm L w I J).2.2.2 2 5 = 42 := rfl
theorem cd_zk_42 {L : Nat} {w : Bool} {I : Nat → Nat → Int32} {J : Nat → Nat → Int64} : cd_k (cd_mm L w I J) 42 = 2 := rfl
theorem cd_zR_2_8 {L : Nat} {w : Bool} {I : Nat → Nat → Int32} {J : Nat → Nat → Int64} : (cd_mm L w I J).2.2.2 2 8 = 58 := rfl
theorem cd_zk_58 {L : Nat} {w : Bool} {I : Nat → Nat → Int32} {J : Nat → Nat → Int64} : cd_k (cd_mm L w I J) 58 = 22 := rfl
theorem cd_zn_58 {L : Nat} {w : Bool} {I : Nat → Nat → Int32} {J : Nat → Nat → Int64} : cd_n (cd_mm L w I J) 58 = 2 := rfl
theorem cd_zR_2_1 {L : Nat} {w : Bool} {I : Nat → Nat → Int32} {J : Nat → Nat → Int64} : (cd_mm L w I J).2.2.2 2 1 = 5 := rfl
theorem cd_zk_5 {L : Nat} {w : Bool} {I : Nat → Nat → Int32} {J : Nat → Nat → Int64} : cd_k (cd_mm L w I J) 5 = 5 := rfl
theorem cd_zR_5_0 {L : Nat} {w : Bool} {I : Nat → Nat → Int32} {J : Nat → Nat → Int64} : (cd_mm L w I J).2.2.2 5 0 = 6 := rfl
theorem cd_zR_2_2 {L : Nat} {w : Bool} {I : Nat → Nat → Int32} {J : Nat → Nat → Int64} : (cd_mm L w I J).2.2.2 2 2 = 21 := rfl
theorem cd_zk_w0_ {L : Nat} {w : Bool} {I : Nat → Nat → Int32} {J : Nat → Nat → Int64} : cd_k (cd_mm L w I J) (cd_ple w) = 3 := by cases w <;> rfl
theorem cd_zk_v0_61_62_63_64_65 {v : Nat} (hv : v = 61 ∨ v = 62 ∨ v = 63 ∨ v = 64 ∨ v = 65) {L : Nat} {w : Bool} {I : Nat → Nat → Int32} {J : Nat → Nat → Int64} : cd_k (cd_mm L w I J) v = 9 := by rcases hv with rfl | rfl | rfl | rfl | rfl <;> rfl
theorem cd_zk_65 {L : Nat} {w : Bool} {I : Nat → Nat → Int32} {J : Nat → Nat → Int64} : cd_k (cd_mm L w I J) 65 = 9 := rfl
theorem cd_zR_2_11 {L : Nat} {w : Bool} {I : Nat → Nat → Int32} {J : Nat → Nat → Int64} : (cd_mm L w I J).2.2.2 2 11 = 65 := rfl
theorem cd_zR_2_10 {L : Nat} {w : Bool} {I : Nat → Nat → Int32} {J : Nat → Nat → Int64} : (cd_mm L w I J).2.2.2 2 10 = 60 := rfl
theorem cd_zR_2_6 {L : Nat} {w : Bool} {I : Nat → Nat → Int32} {J : Nat → Nat → Int64} : (cd_mm L w I J).2.2.2 2 6 = 45 := rfl
theorem cd_zk_45 {L : Nat} {w : Bool} {I : Nat → Nat → Int32} {J : Nat → Nat → Int64} : cd_k (cd_mm L w I J) 45 = 6 := rfl
theorem cd_zk_s0_22_45 {s : Nat} (hs : s = 22 ∨ s = 45) {L : Nat} {w : Bool} {I : Nat → Nat → Int32} {J : Nat → Nat → Int64} : cd_k (cd_mm L w I J) s = 6 := by rcases hs with rfl | rfl <;> rfl
theorem cd_zR_s0_22_45_0 {s : Nat} (hs : s = 22 ∨ s = 45) {L : Nat} {w : Bool} {I : Nat → Nat → Int32} {J : Nat → Nat → Int64} : (cd_mm L w I J).2.2.2 s 0 = (s + 1) := by rcases hs with rfl | rfl <;> rfl
theorem cd_zk_s1_22_45 {s : Nat} (hs : s = 22 ∨ s = 45) {L : Nat} {w : Bool} {I : Nat → Nat → Int32} {J : Nat → Nat → Int64} : cd_k (cd_mm L w I J) (s + 1) = 20 := by rcases hs with rfl | rfl <;> rfl
theorem cd_zn_s1_22_45 {s : Nat} (hs : s = 22 ∨ s = 45) {L : Nat} {w : Bool} {I : Nat → Nat → Int32} {J : Nat → Nat → Int64} : cd_n (cd_mm L w I J) (s + 1) = 8 := by rcases hs with rfl | rfl <;> rfl
theorem cd_zk_z0_14_38 {z : Nat} (hz : z = 14 ∨ z = 38) {L : Nat} {w : Bool} {I : Nat → Nat → Int32} {J : Nat → Nat → Int64} : cd_k (cd_mm L w I J) z = 1 := by rcases hz with rfl | rfl <;> rfl
theorem cd_zR_z0_14_38_2 {z : Nat} (hz : z = 14 ∨ z = 38) {L : Nat} {w : Bool} {I : Nat → Nat → Int32} {J : Nat → Nat → Int64} : (cd_mm L w I J).2.2.2 z 2 = (z + 3) := by rcases hz with rfl | rfl <;> rfl
theorem cd_zk_z3_14_38 {z : Nat} (hz : z = 14 ∨ z = 38) {L : Nat} {w : Bool} {I : Nat → Nat → Int32} {J : Nat → Nat → Int64} : cd_k (cd_mm L w I J) (z + 3) = 20 := by rcases hz with rfl | rfl <;> rfl
theorem cd_zn_z3_14_38 {z : Nat} (hz : z = 14 ∨ z = 38) {L : Nat} {w : Bool} {I : Nat → Nat → Int32} {J : Nat → Nat → Int64} : cd_n (cd_mm L w I J) (z + 3) = 64 := by rcases hz with rfl | rfl <;> rfl
theorem cd_zR_z0_14_38_1 {z : Nat} (hz : z = 14 ∨ z = 38) {L : Nat} {w : Bool} {I : Nat → Nat → Int32} {J : Nat → Nat → Int64} : (cd_mm L w I J).2.2.2 z 1 = (z + 2) := by rcases hz with rfl | rfl <;> rfl
theorem cd_zk_z2_14_38 {z : Nat} (hz : z = 14 ∨ z = 38) {L : Nat} {w : Bool} {I : Nat → Nat → Int32} {J : Nat → Nat → Int64} : cd_k (cd_mm L w I J) (z + 2) = 20 := by rcases hz with rfl | rfl <;> rfl
theorem cd_zn_z2_14_38 {z : Nat} (hz : z = 14 ∨ z = 38) {L : Nat} {w : Bool} {I : Nat → Nat → Int32} {J : Nat → Nat → Int64} : cd_n (cd_mm L w I J) (z + 2) = 192 := by rcases hz with rfl | rfl <;> rfl
theorem cd_zR_z0_14_38_0 {z : Nat} (hz : z = 14 ∨ z = 38) {L : Nat} {w : Bool} {I : Nat → Nat → Int32} {J : Nat → Nat → Int64} : (cd_mm L w I J).2.2.2 z 0 = (z + 1) := by rcases hz with rfl | rfl <;> rfl
theorem cd_zk_z1_14_38 {z : Nat} (hz : z = 14 ∨ z = 38) {L : Nat} {w : Bool} {I : Nat → Nat → Int32} {J : Nat → Nat → Int64} : cd_k (cd_mm L w I J) (z + 1) = 20 := by rcases hz with rfl | rfl <;> rfl
theorem cd_zn_z1_14_38 {z : Nat} (hz : z = 14 ∨ z = 38) {L : Nat} {w : Bool} {I : Nat → Nat → Int32} {J : Nat → Nat → Int64} : cd_n (cd_mm L w I J) (z + 1) = 192 := by rcases hz with rfl | rfl <;> rfl
theorem cd_zR_6_2 {L : Nat} {w : Bool} {I : Nat → Nat → Int32} {J : Nat → Nat → Int64} : (cd_mm L w I J).2.2.2 6 2 = 9 := rfl
theorem cd_zR_6_3 {L : Nat} {w : Bool} {I : Nat → Nat → Int32} {J : Nat → Nat → Int64} : (cd_mm L w I J).2.2.2 6 3 = 10 := rfl
theorem cd_zR_6_4 {L : Nat} {w : Bool} {I : Nat → Nat → Int32} {J : Nat → Nat → Int64} : (cd_mm L w I J).2.2.2 6 4 = 11 := rfl
theorem cd_zR_6_7 {L : Nat} {w : Bool} {I : Nat → Nat → Int32} {J : Nat → Nat → Int64} : (cd_mm L w I J).2.2.2 6 7 = 14 := rfl
theorem cd_zk_14 {L : Nat} {w : Bool} {I : Nat → Nat → Int32} {J : Nat → Nat → Int64} : cd_k (cd_mm L w I J) 14 = 1 := rfl
theorem cd_zR_14_1 {L : Nat} {w : Bool} {I : Nat → Nat → Int32} {J : Nat → Nat → Int64} : (cd_mm L w I J).2.2.2 14 1 = 16 := rfl
theorem cd_zk_16 {L : Nat} {w : Bool} {I : Nat → Nat → Int32} {J : Nat → Nat → Int64} : cd_k (cd_mm L w I J) 16 = 20 := rfl
theorem cd_zn_16 {L : Nat} {w : Bool} {I : Nat → Nat → Int32} {J : Nat → Nat → Int64} : cd_n (cd_mm L w I J) 16 = 192 := rfl
theorem cd_zk_9 {L : Nat} {w : Bool} {I : Nat → Nat → Int32} {J : Nat → Nat → Int64} : cd_k (cd_mm L w I J) 9 = 20 := rfl
theorem cd_zn_9 {L : Nat} {w : Bool} {I : Nat → Nat → Int32} {J : Nat → Nat → Int64} : cd_n (cd_mm L w I J) 9 = 3072 := rfl
theorem cd_zk_10 {L : Nat} {w : Bool} {I : Nat → Nat → Int32} {J : Nat → Nat → Int64} : cd_k (cd_mm L w I J) 10 = 20 := rfl
theorem cd_zn_10 {L : Nat} {w : Bool} {I : Nat → Nat → Int32} {J : Nat → Nat → Int64} : cd_n (cd_mm L w I J) 10 = 3072 := rfl
theorem cd_zk_11 {L : Nat} {w : Bool} {I : Nat → Nat → Int32} {J : Nat → Nat → Int64} : cd_k (cd_mm L w I J) 11 = 20 := rfl
theorem cd_zn_11 {L : Nat} {w : Bool} {I : Nat → Nat → Int32} {J : Nat → Nat → Int64} : cd_n (cd_mm L w I J) 11 = 3072 := rfl
theorem cd_zk_8 {L : Nat} {w : Bool} {I : Nat → Nat → Int32} {J : Nat → Nat → Int64} : cd_k (cd_mm L w I J) 8 = 20 := rfl
theorem cd_zn_8 {L : Nat} {w : Bool} {I : Nat → Nat → Int32} {J : Nat → Nat → Int64} : cd_n (cd_mm L w I J) 8 = 256 := rfl
theorem cd_zR_6_0 {L : Nat} {w : Bool} {I : Nat → Nat → Int32} {J : Nat → Nat → Int64} : (cd_mm L w I J).2.2.2 6 0 = 7 := rfl
theorem cd_zk_7 {L : Nat} {w : Bool} {I : Nat → Nat → Int32} {J : Nat → Nat → Int64} : cd_k (cd_mm L w I J) 7 = 21 := rfl
theorem cd_zn_7 {L : Nat} {w : Bool} {I : Nat → Nat → Int32} {J : Nat → Nat → Int64} : cd_n (cd_mm L w I J) 7 = 256 := rfl
theorem cd_zR_6_5 {L : Nat} {w : Bool} {I : Nat → Nat → Int32} {J : Nat → Nat → Int64} : (cd_mm L w I J).2.2.2 6 5 = 12 := rfl
theorem cd_zk_12 {L : Nat} {w : Bool} {I : Nat → Nat → Int32} {J : Nat → Nat → Int64} : cd_k (cd_mm L w I J) 12 = 20 := rfl
theorem cd_zn_12 {L : Nat} {w : Bool} {I : Nat → Nat → Int32} {J : Nat → Nat → Int64} : cd_n (cd_mm L w I J) 12 = 256 := rfl
theorem cd_zR_5_1 {L : Nat} {w : Bool} {I : Nat → Nat → Int32} {J : Nat → Nat → Int64} : (cd_mm L w I J).2.2.2 5 1 = 18 := rfl
theorem cd_zk_18 {L : Nat} {w : Bool} {I : Nat → Nat → Int32} {J : Nat → Nat → Int64} : cd_k (cd_mm L w I J) 18 = 20 := rfl
theorem cd_zn_18 {L : Nat} {w : Bool} {I : Nat → Nat → Int32} {J : Nat → Nat → Int64} : cd_n (cd_mm L w I J) 18 = 8 := rfl
theorem cd_zR_5_2 {L : Nat} {w : Bool} {I : Nat → Nat → Int32} {J : Nat → Nat → Int64} : (cd_mm L w I J).2.2.2 5 2 = 19 := rfl
theorem cd_zk_19 {L : Nat} {w : Bool} {I : Nat → Nat → Int32} {J : Nat → Nat → Int64} : cd_k (cd_mm L w I J) 19 = 20 := rfl
theorem cd_zn_19 {L : Nat} {w : Bool} {I : Nat → Nat → Int32} {J : Nat → Nat → Int64} : cd_n (cd_mm L w I J) 19 = 8 := rfl
theorem cd_zR_5_3 {L : Nat} {w : Bool} {I : Nat → Nat → Int32} {J : Nat → Nat → Int64} : (cd_mm L w I J).2.2.2 5 3 = 20 := rfl
theorem cd_zk_20 {L : Nat} {w : Bool} {I : Nat → Nat → Int32} {J : Nat → Nat → Int64} : cd_k (cd_mm L w I J) 20 = 20 := rfl
theorem cd_zn_20 {L : Nat} {w : Bool} {I : Nat → Nat → Int32} {J : Nat → Nat → Int64} : cd_n (cd_mm L w I J) 20 = 8 := rfl
theorem cd_zR_s0_22_45_4 {s : Nat} (hs : s = 22 ∨ s = 45) {L : Nat} {w : Bool} {I : Nat → Nat → Int32} {J : Nat → Nat → Int64} : (cd_mm L w I J).2.2.2 s 4 = (s + 3) := by rcases hs with rfl | rfl <;> rfl
theorem cd_zk_s3_22_45 {s : Nat} (hs : s = 22 ∨ s = 45) {L : Nat} {w : Bool} {I : Nat → Nat → Int32} {J : Nat → Nat → Int64} : cd_k (cd_mm L w I J) (s + 3) = 20 := by rcases hs with rfl | rfl <;> rfl
theorem cd_zn_s3_22_45 {s : Nat} (hs : s = 22 ∨ s = 45) {L : Nat} {w : Bool} {I : Nat → Nat → Int32} {J : Nat → Nat → Int64} : cd_n (cd_mm L w I J) (s + 3) = 12 := by rcases hs with rfl | rfl <;> rfl
theorem cd_zR_45_0 {L : Nat} {w : Bool} {I : Nat → Nat → Int32} {J : Nat → Nat → Int64} : (cd_mm L w I J).2.2.2 45 0 = 46 := rfl
theorem cd_zk_46 {L : Nat} {w : Bool} {I : Nat → Nat → Int32} {J : Nat → Nat → Int64} : cd_k (cd_mm L w I J) 46 = 20 := rfl
theorem cd_zn_46 {L : Nat} {w : Bool} {I : Nat → Nat → Int32} {J : Nat → Nat → Int64} : cd_n (cd_mm L w I J) 46 = 8 := rfl
theorem cd_zR_w0__4 {L : Nat} {w : Bool} {I : Nat → Nat → Int32} {J : Nat → Nat → Int64} : (cd_mm L w I J).2.2.2 (cd_ple w) 4 = ((cd_ple w) + 1) := by cases w <;> rfl
theorem cd_zk_w1_ {L : Nat} {w : Bool} {I : Nat → Nat → Int32} {J : Nat → Nat → Int64} : cd_k (cd_mm L w I J) ((cd_ple w) + 1) = 20 := by cases w <;> rfl
theorem cd_zn_w1_ {L : Nat} {w : Bool} {I : Nat → Nat → Int32} {J : Nat → Nat → Int64} : cd_n (cd_mm L w I J) ((cd_ple w) + 1) = 8 := by cases w <;> rfl
theorem cd_zR_w0__5 {L : Nat} {w : Bool} {I : Nat → Nat → Int32} {J : Nat → Nat → Int64} : (cd_mm L w I J).2.2.2 (cd_ple w) 5 = ((cd_ple w) + 2) := by cases w <;> rfl
theorem cd_zk_w2_ {L : Nat} {w : Bool} {I : Nat → Nat → Int32} {J : Nat → Nat → Int64} : cd_k (cd_mm L w I J) ((cd_ple w) + 2) = 20 := by cases w <;> rfl
theorem cd_zn_w2_ {L : Nat} {w : Bool} {I : Nat → Nat → Int32} {J : Nat → Nat → Int64} : cd_n (cd_mm L w I J) ((cd_ple w) + 2) = 8 := by cases w <;> rfl
theorem cd_zR_w0__6 {L : Nat} {w : Bool} {I : Nat → Nat → Int32} {J : Nat → Nat → Int64} : (cd_mm L w I J).2.2.2 (cd_ple w) 6 = ((cd_ple w) + 3) := by cases w <;> rfl
theorem cd_zk_w3_ {L : Nat} {w : Bool} {I : Nat → Nat → Int32} {J : Nat → Nat → Int64} : cd_k (cd_mm L w I J) ((cd_ple w) + 3) = 20 := by cases w <;> rfl
theorem cd_zn_w3_ {L : Nat} {w : Bool} {I : Nat → Nat → Int32} {J : Nat → Nat → Int64} : cd_n (cd_mm L w I J) ((cd_ple w) + 3) = 8 := by cases w <;> rfl
theorem cd_zR_w0__7 {L : Nat} {w : Bool} {I : Nat → Nat → Int32} {J : Nat → Nat → Int64} : (cd_mm L w I J).2.2.2 (cd_ple w) 7 = ((cd_ple w) + 4) := by cases w <;> rfl
theorem cd_zk_w4_ {L : Nat} {w : Bool} {I : Nat → Nat → Int32} {J : Nat → Nat → Int64} : cd_k (cd_mm L w I J) ((cd_ple w) + 4) = 20 := by cases w <;> rfl
theorem cd_zn_w4_ {L : Nat} {w : Bool} {I : Nat → Nat → Int32} {J : Nat → Nat → Int64} : cd_n (cd_mm L w I J) ((cd_ple w) + 4) = 8 := by cases w <;> rfl
theorem cd_zR_w0__14 {L : Nat} {w : Bool} {I : Nat → Nat → Int32} {J : Nat → Nat → Int64} : (cd_mm L w I J).2.2.2 (cd_ple w) 14 = ((cd_ple w) + 11) := by cases w <;> rfl
theorem cd_zk_w11_ {L : Nat} {w : Bool} {I : Nat → Nat → Int32} {J : Nat → Nat → Int64} : cd_k (cd_mm L w I J) ((cd_ple w) + 11) = 20 := by cases w <;> rfl
theorem cd_zn_w11_ {L : Nat} {w : Bool} {I : Nat → Nat → Int32} {J : Nat → Nat → Int64} : cd_n (cd_mm L w I J) ((cd_ple w) + 11) = 12 := by cases w <;> rfl
theorem cd_zR_w0__15 {L : Nat} {w : Bool} {I : Nat → Nat → Int32} {J : Nat → Nat → Int64} : (cd_mm L w I J).2.2.2 (cd_ple w) 15 = ((cd_ple w) + 12) := by cases w <;> rfl
theorem cd_zk_w12_ {L : Nat} {w : Bool} {I : Nat → Nat → Int32} {J : Nat → Nat → Int64} : cd_k (cd_mm L w I J) ((cd_ple w) + 12) = 20 := by cases w <;> rfl
theorem cd_zn_w12_ {L : Nat} {w : Bool} {I : Nat → Nat → Int32} {J : Nat → Nat → Int64} : cd_n (cd_mm L w I J) ((cd_ple w) + 12) = 12 := by cases w <;> rfl
theorem cd_zR_45_3 {L : Nat} {w : Bool} {I : Nat → Nat → Int32} {J : Nat → Nat → Int64} : (cd_mm L w I J).2.2.2 45 3 = 47 := rfl
theorem cd_zk_47 {L : Nat} {w : Bool} {I : Nat → Nat → Int32} {J : Nat → Nat → Int64} : cd_k (cd_mm L w I J) 47 = 20 := rfl
theorem cd_zn_47 {L : Nat} {w : Bool} {I : Nat → Nat → Int32} {J : Nat → Nat → Int64} : cd_n (cd_mm L w I J) 47 = 12 := rfl
theorem cd_zR_45_4 {L : Nat} {w : Bool} {I : Nat → Nat → Int32} {J : Nat → Nat → Int64} : (cd_mm L w I J).2.2.2 45 4 = 48 := rfl
theorem cd_zk_48 {L : Nat} {w : Bool} {I : Nat → Nat → Int32} {J : Nat → Nat → Int64} : cd_k (cd_mm L w I J) 48 = 20 := rfl
theorem cd_zn_48 {L : Nat} {w : Bool} {I : Nat → Nat → Int32} {J : Nat → Nat → Int64} : cd_n (cd_mm L w I J) 48 = 12 := rfl
theorem cd_zR_2_4 {L : Nat} {w : Bool} {I : Nat → Nat → Int32} {J : Nat → Nat → Int64} : (cd_mm L w I J).2.2.2 2 4 = 38 := rfl
theorem cd_zk_38 {L : Nat} {w : Bool} {I : Nat → Nat → Int32} {J : Nat → Nat → Int64} : cd_k (cd_mm L w I J) 38 = 1 := rfl
theorem cd_zR_38_0 {L : Nat} {w : Bool} {I : Nat → Nat → Int32} {J : Nat → Nat → Int64} : (cd_mm L w I J).2.2.2 38 0 = 39 := rfl
theorem cd_zk_39 {L : Nat} {w : Bool} {I : Nat → Nat → Int32} {J : Nat → Nat → Int64} : cd_k (cd_mm L w I J) 39 = 20 := rfl
theorem cd_zn_39 {L : Nat} {w : Bool} {I : Nat → Nat → Int32} {J : Nat → Nat → Int64} : cd_n (cd_mm L w I J) 39 = 192 := rfl
theorem cd_zR_38_1 {L : Nat} {w : Bool} {I : Nat → Nat → Int32} {J : Nat → Nat → Int64} : (cd_mm L w I J).2.2.2 38 1 = 40 := rfl
theorem cd_zk_40 {L : Nat} {w : Bool} {I : Nat → Nat → Int32} {J : Nat → Nat → Int64} : cd_k (cd_mm L w I J) 40 = 20 := rfl
theorem cd_zn_40 {L : Nat} {w : Bool} {I : Nat → Nat → Int32} {J : Nat → Nat → Int64} : cd_n (cd_mm L w I J) 40 = 192 := rfl
theorem cd_zR_s0_22_45_3 {s : Nat} (hs : s = 22 ∨ s = 45) {L : Nat} {w : Bool} {I : Nat → Nat → Int32} {J : Nat → Nat → Int64} : (cd_mm L w I J).2.2.2 s 3 = (s + 2) := by rcases hs with rfl | rfl <;> rfl
theorem cd_zk_s2_22_45 {s : Nat} (hs : s = 22 ∨ s = 45) {L : Nat} {w : Bool} {I : Nat → Nat → Int32} {J : Nat → Nat → Int64} : cd_k (cd_mm L w I J) (s + 2) = 20 := by rcases hs with rfl | rfl <;> rfl
theorem cd_zn_s2_22_45 {s : Nat} (hs : s = 22 ∨ s = 45) {L : Nat} {w : Bool} {I : Nat → Nat → Int32} {J : Nat → Nat → Int64} : cd_n (cd_mm L w I J) (s + 2) = 12 := by rcases hs with rfl | rfl <;> rfl
theorem cd_zk_l0_26_42 {l : Nat} (hl : l = 26 ∨ l = 42) {L : Nat} {w : Bool} {I : Nat → Nat → Int32} {J : Nat → Nat → Int64} : cd_k (cd_mm L w I J) l = 2 := by rcases hl with rfl | rfl <;> rfl
theorem cd_zR_l0_26_42_0 {l : Nat} (hl : l = 26 ∨ l = 42) {L : Nat} {w : Bool} {I : Nat → Nat → Int32} {J : Nat → Nat → Int64} : (cd_mm L w I J).2.2.2 l 0 = (l + 1) := by rcases hl with rfl | rfl <;> rfl
theorem cd_zk_l1_26_42 {l : Nat} (hl : l = 26 ∨ l = 42) {L : Nat} {w : Bool} {I : Nat → Nat → Int32} {J : Nat → Nat → Int64} : cd_k (cd_mm L w I J) (l + 1) = 20 := by rcases hl with rfl | rfl <;> rfl
theorem cd_zn_l1_26_42 {l : Nat} (hl : l = 26 ∨ l = 42) {L : Nat} {w : Bool} {I : Nat → Nat → Int32} {J : Nat → Nat → Int64} : cd_n (cd_mm L w I J) (l + 1) = 60 := by rcases hl with rfl | rfl <;> rfl
theorem cd_zR_l0_26_42_1 {l : Nat} (hl : l = 26 ∨ l = 42) {L : Nat} {w : Bool} {I : Nat → Nat → Int32} {J : Nat → Nat → Int64} : (cd_mm L w I J).2.2.2 l 1 = (l + 2) := by rcases hl with rfl | rfl <;> rfl
theorem cd_zk_l2_26_42 {l : Nat} (hl : l = 26 ∨ l = 42) {L : Nat} {w : Bool} {I : Nat → Nat → Int32} {J : Nat → Nat → Int64} : cd_k (cd_mm L w I J) (l + 2) = 20 := by rcases hl with rfl | rfl <;> rfl
theorem cd_zn_l2_26_42 {l : Nat} (hl : l = 26 ∨ l = 42) {L : Nat} {w : Bool} {I : Nat → Nat → Int32} {J : Nat → Nat → Int64} : cd_n (cd_mm L w I J) (l + 2) = 60 := by rcases hl with rfl | rfl <;> rfl
theorem cd_zR_42_0 {L : Nat} {w : Bool} {I : Nat → Nat → Int32} {J : Nat → Nat → Int64} : (cd_mm L w I J).2.2.2 42 0 = 43 := rfl
theorem cd_zk_43 {L : Nat} {w : Bool} {I : Nat → Nat → Int32} {J : Nat → Nat → Int64} : cd_k (cd_mm L w I J) 43 = 20 := rfl
theorem cd_zn_43 {L : Nat} {w : Bool} {I : Nat → Nat → Int32} {J : Nat → Nat → Int64} : cd_n (cd_mm L w I J) 43 = 60 := rfl
theorem cd_zR_42_1 {L : Nat} {w : Bool} {I : Nat → Nat → Int32} {J : Nat → Nat → Int64} : (cd_mm L w I J).2.2.2 42 1 = 44 := rfl
theorem cd_zk_44 {L : Nat} {w : Bool} {I : Nat → Nat → Int32} {J : Nat → Nat → Int64} : cd_k (cd_mm L w I J) 44 = 20 := rfl
theorem cd_zn_44 {L : Nat} {w : Bool} {I : Nat → Nat → Int32} {J : Nat → Nat → Int64} : cd_n (cd_mm L w I J) 44 = 60 := rfl
theorem cd_zR_21_0 {L : Nat} {w : Bool} {I : Nat → Nat → Int32} {J : Nat → Nat → Int64} : (cd_mm L w I J).2.2.2 21 0 = 22 := rfl
theorem cd_zk_22 {L : Nat} {w : Bool} {I : Nat → Nat → Int32} {J : Nat → Nat → Int64} : cd_k (cd_mm L w I J) 22 = 6 := rfl
theorem cd_zR_6_6 {L : Nat} {w : Bool} {I : Nat → Nat → Int32} {J : Nat → Nat → Int64} : (cd_mm L w I J).2.2.2 6 6 = 13 := rfl
theorem cd_zk_13 {L : Nat} {w : Bool} {I : Nat → Nat → Int32} {J : Nat → Nat → Int64} : cd_k (cd_mm L w I J) 13 = 20 := rfl
theorem cd_zn_13 {L : Nat} {w : Bool} {I : Nat → Nat → Int32} {J : Nat → Nat → Int64} : cd_n (cd_mm L w I J) 13 = 256 := rfl
theorem cd_zR_21_1 {L : Nat} {w : Bool} {I : Nat → Nat → Int32} {J : Nat → Nat → Int64} : (cd_mm L w I J).2.2.2 21 1 = 26 := rfl
theorem cd_zR_21_2 {L : Nat} {w : Bool} {I : Nat → Nat → Int32} {J : Nat → Nat → Int64} : (cd_mm L w I J).2.2.2 21 2 = 29 := rfl
theorem cd_zk_29 {L : Nat} {w : Bool} {I : Nat → Nat → Int32} {J : Nat → Nat → Int64} : cd_k (cd_mm L w I J) 29 = 22 := rfl
theorem cd_zn_29 {L : Nat} {w : Bool} {I : Nat → Nat → Int32} {J : Nat → Nat → Int64} : cd_n (cd_mm L w I J) 29 = 128 := rfl
theorem cd_zR_21_3 {L : Nat} {w : Bool} {I : Nat → Nat → Int32} {J : Nat → Nat → Int64} : (cd_mm L w I J).2.2.2 21 3 = 30 := rfl
theorem cd_zk_30 {L : Nat} {w : Bool} {I : Nat → Nat → Int32} {J : Nat → Nat → Int64} : cd_k (cd_mm L w I J) 30 = 20 := rfl
theorem cd_zn_30 {L : Nat} {w : Bool} {I : Nat → Nat → Int32} {J : Nat → Nat → Int64} : cd_n (cd_mm L w I J) 30 = 7 := rfl
theorem cd_zR_22_3 {L : Nat} {w : Bool} {I : Nat → Nat → Int32} {J : Nat → Nat → Int64} : (cd_mm L w I J).2.2.2 22 3 = 24 := rfl
theorem cd_zk_24 {L : Nat} {w : Bool} {I : Nat → Nat → Int32} {J : Nat → Nat → Int64} : cd_k (cd_mm L w I J) 24 = 20 := rfl
theorem cd_zn_24 {L : Nat} {w : Bool} {I : Nat → Nat → Int32} {J : Nat → Nat → Int64} : cd_n (cd_mm L w I J) 24 = 12 := rfl
theorem cd_zR_21_4 {L : Nat} {w : Bool} {I : Nat → Nat → Int32} {J : Nat → Nat → Int64} : (cd_mm L w I J).2.2.2 21 4 = 31 := rfl
theorem cd_zk_31 {L : Nat} {w : Bool} {I : Nat → Nat → Int32} {J : Nat → Nat → Int64} : cd_k (cd_mm L w I J) 31 = 20 := rfl
theorem cd_zn_31 {L : Nat} {w : Bool} {I : Nat → Nat → Int32} {J : Nat → Nat → Int64} : cd_n (cd_mm L w I J) 31 = 7 := rfl
theorem cd_zk_32 {L : Nat} {w : Bool} {I : Nat → Nat → Int32} {J : Nat → Nat → Int64} : cd_k (cd_mm L w I J) 32 = 7 := rfl
theorem cd_zR_32_0 {L : Nat} {w : Bool} {I : Nat → Nat → Int32} {J : Nat → Nat → Int64} : (cd_mm L w I J).2.2.2 32 0 = 33 := rfl
theorem cd_zk_33 {L : Nat} {w : Bool} {I : Nat → Nat → Int32} {J : Nat → Nat → Int64} : cd_k (cd_mm L w I J) 33 = 20 := rfl
theorem cd_zn_33 {L : Nat} {w : Bool} {I : Nat → Nat → Int32} {J : Nat → Nat → Int64} : cd_n (cd_mm L w I J) 33 = 256 := rfl
theorem cd_zR_32_1 {L : Nat} {w : Bool} {I : Nat → Nat → Int32} {J : Nat → Nat → Int64} : (cd_mm L w I J).2.2.2 32 1 = 34 := rfl
theorem cd_zk_34 {L : Nat} {w : Bool} {I : Nat → Nat → Int32} {J : Nat → Nat → Int64} : cd_k (cd_mm L w I J) 34 = 20 := rfl
theorem cd_zn_34 {L : Nat} {w : Bool} {I : Nat → Nat → Int32} {J : Nat → Nat → Int64} : cd_n (cd_mm L w I J) 34 = 256 := rfl
theorem cd_zR_32_2 {L : Nat} {w : Bool} {I : Nat → Nat → Int32} {J : Nat → Nat → Int64} : (cd_mm L w I J).2.2.2 32 2 = 35 := rfl
theorem cd_zk_35 {L : Nat} {w : Bool} {I : Nat → Nat → Int32} {J : Nat → Nat → Int64} : cd_k (cd_mm L w I J) 35 = 22 := rfl
theorem cd_zn_35 {L : Nat} {w : Bool} {I : Nat → Nat → Int32} {J : Nat → Nat → Int64} : cd_n (cd_mm L w I J) 35 = 256 := rfl
theorem cd_zR_32_3 {L : Nat} {w : Bool} {I : Nat → Nat → Int32} {J : Nat → Nat → Int64} : (cd_mm L w I J).2.2.2 32 3 = 36 := rfl
theorem cd_zk_36 {L : Nat} {w : Bool} {I : Nat → Nat → Int32} {J : Nat → Nat → Int64} : cd_k (cd_mm L w I J) 36 = 20 := rfl
theorem cd_zn_36 {L : Nat} {w : Bool} {I : Nat → Nat → Int32} {J : Nat → Nat → Int64} : cd_n (cd_mm L w I J) 36 = 8 := rfl
theorem cd_zR_32_4 {L : Nat} {w : Bool} {I : Nat → Nat → Int32} {J : Nat → Nat → Int64} : (cd_mm L w I J).2.2.2 32 4 = 37 := rfl
theorem cd_zk_37 {L : Nat} {w : Bool} {I : Nat → Nat → Int32} {J : Nat → Nat → Int64} : cd_k (cd_mm L w I J) 37 = 20 := rfl
theorem cd_zn_37 {L : Nat} {w : Bool} {I : Nat → Nat → Int32} {J : Nat → Nat → Int64} : cd_n (cd_mm L w I J) 37 = 8 := rfl
theorem cd_zR_2_3 {L : Nat} {w : Bool} {I : Nat → Nat → Int32} {J : Nat → Nat → Int64} : (cd_mm L w I J).2.2.2 2 3 = 32 := rfl
theorem cd_zR_2_7 {L : Nat} {w : Bool} {I : Nat → Nat → Int32} {J : Nat → Nat → Int64} : (cd_mm L w I J).2.2.2 2 7 = 49 := rfl
theorem cd_zR_2_9 {L : Nat} {w : Bool} {I : Nat → Nat → Int32} {J : Nat → Nat → Int64} : (cd_mm L w I J).2.2.2 2 9 = 59 := rfl
theorem cd_zk_59 {L : Nat} {w : Bool} {I : Nat → Nat → Int32} {J : Nat → Nat → Int64} : cd_k (cd_mm L w I J) 59 = 20 := rfl
theorem cd_zn_59 {L : Nat} {w : Bool} {I : Nat → Nat → Int32} {J : Nat → Nat → Int64} : cd_n (cd_mm L w I J) 59 = 2 := rfl
theorem cd_zk_100 {L : Nat} {w : Bool} {I : Nat → Nat → Int32} {J : Nat → Nat → Int64} : cd_k (cd_mm L w I J) 100 = 11 := rfl
theorem cd_zR_100_1 {L : Nat} {w : Bool} {I : Nat → Nat → Int32} {J : Nat → Nat → Int64} : (cd_mm L w I J).2.2.2 100 1 = 101 := rfl
theorem cd_zk_101 {L : Nat} {w : Bool} {I : Nat → Nat → Int32} {J : Nat → Nat → Int64} : cd_k (cd_mm L w I J) 101 = 20 := rfl
theorem cd_zn_101 {L : Nat} {w : Bool} {I : Nat → Nat → Int32} {J : Nat → Nat → Int64} : cd_n (cd_mm L w I J) 101 = 8 := rfl
theorem cd_zk_o0_107_115 {o : Nat} (ho : o = 107 ∨ o = 115) {L : Nat} {w : Bool} {I : Nat → Nat → Int32} {J : Nat → Nat → Int64} : cd_k (cd_mm L w I J) o = 20 := by rcases ho with rfl | rfl <;> rfl
theorem cd_zn_o0_107_115 {o : Nat} (ho : o = 107 ∨ o = 115) {L : Nat} {w : Bool} {I : Nat → Nat → Int32} {J : Nat → Nat → Int64} : cd_n (cd_mm L w I J) o = 15 := by rcases ho with rfl | rfl <;> rfl
theorem cd_zR_100_8 {L : Nat} {w : Bool} {I : Nat → Nat → Int32} {J : Nat → Nat → Int64} : (cd_mm L w I J).2.2.2 100 8 = 107 := rfl
theorem cd_zR_100_17 {L : Nat} {w : Bool} {I : Nat → Nat → Int32} {J : Nat → Nat → Int64} : (cd_mm L w I J).2.2.2 100 17 = 113 := rfl
theorem cd_zk_113 {L : Nat} {w : Bool} {I : Nat → Nat → Int32} {J : Nat → Nat → Int64} : cd_k (cd_mm L w I J) 113 = 20 := rfl
theorem cd_zn_113 {L : Nat} {w : Bool} {I : Nat → Nat → Int32} {J : Nat → Nat → Int64} : cd_n (cd_mm L w I J) 113 = 500 := rfl
theorem cd_zR_100_26 {L : Nat} {w : Bool} {I : Nat → Nat → Int32} {J : Nat → Nat → Int64} : (cd_mm L w I J).2.2.2 100 26 = 114 := rfl
theorem cd_zk_114 {L : Nat} {w : Bool} {I : Nat → Nat → Int32} {J : Nat → Nat → Int64} : cd_k (cd_mm L w I J) 114 = 20 := rfl
theorem cd_zn_114 {L : Nat} {w : Bool} {I : Nat → Nat → Int32} {J : Nat → Nat → Int64} : cd_n (cd_mm L w I J) 114 = 40 := rfl
theorem cd_zR_100_28 {L : Nat} {w : Bool} {I : Nat → Nat → Int32} {J : Nat → Nat → Int64} : (cd_mm L w I J).2.2.2 100 28 = 115 := rfl
theorem cd_zk_115 {L : Nat} {w : Bool} {I : Nat → Nat → Int32} {J : Nat → Nat → Int64} : cd_k (cd_mm L w I J) 115 = 20 := rfl
theorem cd_zn_115 {L : Nat} {w : Bool} {I : Nat → Nat → Int32} {J : Nat → Nat → Int64} : cd_n (cd_mm L w I J) 115 = 15 := rfl
theorem cd_zR_100_30 {L : Nat} {w : Bool} {I : Nat → Nat → Int32} {J : Nat → Nat → Int64} : (cd_mm L w I J).2.2.2 100 30 = 116 := rfl
theorem cd_zk_116 {L : Nat} {w : Bool} {I : Nat → Nat → Int32} {J : Nat → Nat → Int64} : cd_k (cd_mm L w I J) 116 = 20 := rfl
theorem cd_zn_116 {L : Nat} {w : Bool} {I : Nat → Nat → Int32} {J : Nat → Nat → Int64} : cd_n (cd_mm L w I J) 116 = 48 := rfl
theorem cd_zR_100_2 {L : Nat} {w : Bool} {I : Nat → Nat → Int32} {J : Nat → Nat → Int64} : (cd_mm L w I J).2.2.2 100 2 = 102 := rfl
theorem cd_zk_102 {L : Nat} {w : Bool} {I : Nat → Nat → Int32} {J : Nat → Nat → Int64} : cd_k (cd_mm L w I J) 102 = 20 := rfl
theorem cd_zn_102 {L : Nat} {w : Bool} {I : Nat → Nat → Int32} {J : Nat → Nat → Int64} : cd_n (cd_mm L w I J) 102 = 8 := rfl
theorem cd_zR_100_3 {L : Nat} {w : Bool} {I : Nat → Nat → Int32} {J : Nat → Nat → Int64} : (cd_mm L w I J).2.2.2 100 3 = 103 := rfl
theorem cd_zk_103 {L : Nat} {w : Bool} {I : Nat → Nat → Int32} {J : Nat → Nat → Int64} : cd_k (cd_mm L w I J) 103 = 20 := rfl
theorem cd_zn_103 {L : Nat} {w : Bool} {I : Nat → Nat → Int32} {J : Nat → Nat → Int64} : cd_n (cd_mm L w I J) 103 = 8 := rfl
theorem cd_zR_100_4 {L : Nat} {w : Bool} {I : Nat → Nat → Int32} {J : Nat → Nat → Int64} : (cd_mm L w I J).2.2.2 100 4 = 104 := rfl
theorem cd_zk_104 {L : Nat} {w : Bool} {I : Nat → Nat → Int32} {J : Nat → Nat → Int64} : cd_k (cd_mm L w I J) 104 = 20 := rfl
theorem cd_zn_104 {L : Nat} {w : Bool} {I : Nat → Nat → Int32} {J : Nat → Nat → Int64} : cd_n (cd_mm L w I J) 104 = 8 := rfl
theorem cd_zR_100_5 {L : Nat} {w : Bool} {I : Nat → Nat → Int32} {J : Nat → Nat → Int64} : (cd_mm L w I J).2.2.2 100 5 = 105 := rfl
theorem cd_zk_105 {L : Nat} {w : Bool} {I : Nat → Nat → Int32} {J : Nat → Nat → Int64} : cd_k (cd_mm L w I J) 105 = 20 := rfl
theorem cd_zn_105 {L : Nat} {w : Bool} {I : Nat → Nat → Int32} {J : Nat → Nat → Int64} : cd_n (cd_mm L w I J) 105 = 8 := rfl
theorem cd_zR_100_6 {L : Nat} {w : Bool} {I : Nat → Nat → Int32} {J : Nat → Nat → Int64} : (cd_mm L w I J).2.2.2 100 6 = 106 := rfl
theorem cd_zk_106 {L : Nat} {w : Bool} {I : Nat → Nat → Int32} {J : Nat → Nat → Int64} : cd_k (cd_mm L w I J) 106 = 22 := rfl
theorem cd_zn_106 {L : Nat} {w : Bool} {I : Nat → Nat → Int32} {J : Nat → Nat → Int64} : cd_n (cd_mm L w I J) 106 = 8 := rfl
theorem cd_zk_107 {L : Nat} {w : Bool} {I : Nat → Nat → Int32} {J : Nat → Nat → Int64} : cd_k (cd_mm L w I J) 107 = 20 := rfl
theorem cd_zn_107 {L : Nat} {w : Bool} {I : Nat → Nat → Int32} {J : Nat → Nat → Int64} : cd_n (cd_mm L w I J) 107 = 15 := rfl
theorem cd_zR_100_10 {L : Nat} {w : Bool} {I : Nat → Nat → Int32} {J : Nat → Nat → Int64} : (cd_mm L w I J).2.2.2 100 10 = 108 := rfl
theorem cd_zk_108 {L : Nat} {w : Bool} {I : Nat → Nat → Int32} {J : Nat → Nat → Int64} : cd_k (cd_mm L w I J) 108 = 20 := rfl
theorem cd_zn_108 {L : Nat} {w : Bool} {I : Nat → Nat → Int32} {J : Nat → Nat → Int64} : cd_n (cd_mm L w I J) 108 = 12 := rfl
theorem cd_zR_100_11 {L : Nat} {w : Bool} {I : Nat → Nat → Int32} {J : Nat → Nat → Int64} : (cd_mm L w I J).2.2.2 100 11 = 109 := rfl
theorem cd_zk_109 {L : Nat} {w : Bool} {I : Nat → Nat → Int32} {J : Nat → Nat → Int64} : cd_k (cd_mm L w I J) 109 = 20 := rfl
theorem cd_zn_109 {L : Nat} {w : Bool} {I : Nat → Nat → Int32} {J : Nat → Nat → Int64} : cd_n (cd_mm L w I J) 109 = 12 := rfl
theorem cd_zR_100_12 {L : Nat} {w : Bool} {I : Nat → Nat → Int32} {J : Nat → Nat → Int64} : (cd_mm L w I J).2.2.2 100 12 = 110 := rfl
theorem cd_zk_110 {L : Nat} {w : Bool} {I : Nat → Nat → Int32} {J : Nat → Nat → Int64} : cd_k (cd_mm L w I J) 110 = 20 := rfl
theorem cd_zn_110 {L : Nat} {w : Bool} {I : Nat → Nat → Int32} {J : Nat → Nat → Int64} : cd_n (cd_mm L w I J) 110 = 12 := rfl
theorem cd_zR_100_13 {L : Nat} {w : Bool} {I : Nat → Nat → Int32} {J : Nat → Nat → Int64} : (cd_mm L w I J).2.2.2 100 13 = 111 := rfl
theorem cd_zk_111 {L : Nat} {w : Bool} {I : Nat → Nat → Int32} {J : Nat → Nat → Int64} : cd_k (cd_mm L w I J) 111 = 20 := rfl
theorem cd_zn_111 {L : Nat} {w : Bool} {I : Nat → Nat → Int32} {J : Nat → Nat → Int64} : cd_n (cd_mm L w I J) 111 = 12 := rfl
theorem cd_zR_100_14 {L : Nat} {w : Bool} {I : Nat → Nat → Int32} {J : Nat → Nat → Int64} : (cd_mm L w I J).2.2.2 100 14 = 112 := rfl
theorem cd_zk_112 {L : Nat} {w : Bool} {I : Nat → Nat → Int32} {J : Nat → Nat → Int64} : cd_k (cd_mm L w I J) 112 = 22 := rfl
theorem cd_zn_112 {L : Nat} {w : Bool} {I : Nat → Nat → Int32} {J : Nat → Nat → Int64} : cd_n (cd_mm L w I J) 112 = 12 := rfl
theorem cd_zR_100_47 {L : Nat} {w : Bool} {I : Nat → Nat → Int32} {J : Nat → Nat → Int64} : (cd_mm L w I J).2.2.2 100 47 = 126 := rfl
theorem cd_zk_126 {L : Nat} {w : Bool} {I : Nat → Nat → Int32} {J : Nat → Nat → Int64} : cd_k (cd_mm L w I J) 126 = 22 := rfl
theorem cd_zn_126 {L : Nat} {w : Bool} {I : Nat → Nat → Int32} {J : Nat → Nat → Int64} : cd_n (cd_mm L w I J) 126 = 2 := rfl
theorem cd_zR_100_35 {L : Nat} {w : Bool} {I : Nat → Nat → Int32} {J : Nat → Nat → Int64} : (cd_mm L w I J).2.2.2 100 35 = 117 := rfl
theorem cd_zk_117 {L : Nat} {w : Bool} {I : Nat → Nat → Int32} {J : Nat → Nat → Int64} : cd_k (cd_mm L w I J) 117 = 20 := rfl
theorem cd_zn_117 {L : Nat} {w : Bool} {I : Nat → Nat → Int32} {J : Nat → Nat → Int64} : cd_n (cd_mm L w I J) 117 = 12 := rfl
theorem cd_zR_100_36 {L : Nat} {w : Bool} {I : Nat → Nat → Int32} {J : Nat → Nat → Int64} : (cd_mm L w I J).2.2.2 100 36 = 118 := rfl
theorem cd_zk_118 {L : Nat} {w : Bool} {I : Nat → Nat → Int32} {J : Nat → Nat → Int64} : cd_k (cd_mm L w I J) 118 = 20 := rfl
theorem cd_zn_118 {L : Nat} {w : Bool} {I : Nat → Nat → Int32} {J : Nat → Nat → Int64} : cd_n (cd_mm L w I J) 118 = 12 := rfl
theorem cd_zR_100_37 {L : Nat} {w : Bool} {I : Nat → Nat → Int32} {J : Nat → Nat → Int64} : (cd_mm L w I J).2.2.2 100 37 = 119 := rfl
theorem cd_zk_119 {L : Nat} {w : Bool} {I : Nat → Nat → Int32} {J : Nat → Nat → Int64} : cd_k (cd_mm L w I J) 119 = 20 := rfl
theorem cd_zn_119 {L : Nat} {w : Bool} {I : Nat → Nat → Int32} {J : Nat → Nat → Int64} : cd_n (cd_mm L w I J) 119 = 12 := rfl
theorem cd_zk_o0_117_118 {o : Nat} (ho : o = 117 ∨ o = 118) {L : Nat} {w : Bool} {I : Nat → Nat → Int32} {J : Nat → Nat → Int64} : cd_k (cd_mm L w I J) o = 20 := by rcases ho with rfl | rfl <;> rfl
theorem cd_zn_o0_117_118 {o : Nat} (ho : o = 117 ∨ o = 118) {L : Nat} {w : Bool} {I : Nat → Nat → Int32} {J : Nat → Nat → Int64} : cd_n (cd_mm L w I J) o = 12 := by rcases ho with rfl | rfl <;> rfl
theorem cd_zR_100_43 {L : Nat} {w : Bool} {I : Nat → Nat → Int32} {J : Nat → Nat → Int64} : (cd_mm L w I J).2.2.2 100 43 = 122 := rfl
theorem cd_zk_122 {L : Nat} {w : Bool} {I : Nat → Nat → Int32} {J : Nat → Nat → Int64} : cd_k (cd_mm L w I J) 122 = 20 := rfl
theorem cd_zn_122 {L : Nat} {w : Bool} {I : Nat → Nat → Int32} {J : Nat → Nat → Int64} : cd_n (cd_mm L w I J) 122 = 60 := rfl
theorem cd_zR_100_44 {L : Nat} {w : Bool} {I : Nat → Nat → Int32} {J : Nat → Nat → Int64} : (cd_mm L w I J).2.2.2 100 44 = 123 := rfl
theorem cd_zk_123 {L : Nat} {w : Bool} {I : Nat → Nat → Int32} {J : Nat → Nat → Int64} : cd_k (cd_mm L w I J) 123 = 20 := rfl
theorem cd_zn_123 {L : Nat} {w : Bool} {I : Nat → Nat → Int32} {J : Nat → Nat → Int64} : cd_n (cd_mm L w I J) 123 = 60 := rfl
theorem cd_zR_100_41 {L : Nat} {w : Bool} {I : Nat → Nat → Int32} {J : Nat → Nat → Int64} : (cd_mm L w I J).2.2.2 100 41 = 120 := rfl
theorem cd_zk_120 {L : Nat} {w : Bool} {I : Nat → Nat → Int32} {J : Nat → Nat → Int64} : cd_k (cd_mm L w I J) 120 = 20 := rfl
theorem cd_zn_120 {L : Nat} {w : Bool} {I : Nat → Nat → Int32} {J : Nat → Nat → Int64} : cd_n (cd_mm L w I J) 120 = 60 := rfl
theorem cd_zR_100_42 {L : Nat} {w : Bool} {I : Nat → Nat → Int32} {J : Nat → Nat → Int64} : (cd_mm L w I J).2.2.2 100 42 = 121 := rfl
theorem cd_zk_121 {L : Nat} {w : Bool} {I : Nat → Nat → Int32} {J : Nat → Nat → Int64} : cd_k (cd_mm L w I J) 121 = 20 := rfl
theorem cd_zn_121 {L : Nat} {w : Bool} {I : Nat → Nat → Int32} {J : Nat → Nat → Int64} : cd_n (cd_mm L w I J) 121 = 60 := rfl
theorem cd_zR_100_45 {L : Nat} {w : Bool} {I : Nat → Nat → Int32} {J : Nat → Nat → Int64} : (cd_mm L w I J).2.2.2 100 45 = 124 := rfl
theorem cd_zk_124 {L : Nat} {w : Bool} {I : Nat → Nat → Int32} {J : Nat → Nat → Int64} : cd_k (cd_mm L w I J) 124 = 20 := rfl
theorem cd_zn_124 {L : Nat} {w : Bool} {I : Nat → Nat → Int32} {J : Nat → Nat → Int64} : cd_n (cd_mm L w I J) 124 = 64 := rfl
theorem cd_zR_100_46 {L : Nat} {w : Bool} {I : Nat → Nat → Int32} {J : Nat → Nat → Int64} : (cd_mm L w I J).2.2.2 100 46 = 125 := rfl
theorem cd_zk_125 {L : Nat} {w : Bool} {I : Nat → Nat → Int32} {J : Nat → Nat → Int64} : cd_k (cd_mm L w I J) 125 = 20 := rfl
theorem cd_zn_125 {L : Nat} {w : Bool} {I : Nat → Nat → Int32} {J : Nat → Nat → Int64} : cd_n (cd_mm L w I J) 125 = 240 := rfl
theorem cd_zR_100_49 {L : Nat} {w : Bool} {I : Nat → Nat → Int32} {J : Nat → Nat → Int64} : (cd_mm L w I J).2.2.2 100 49 = 127 := rfl
theorem cd_zk_127 {L : Nat} {w : Bool} {I : Nat → Nat → Int32} {J : Nat → Nat → Int64} : cd_k (cd_mm L w I J) 127 = 22 := rfl
theorem cd_zn_127 {L : Nat} {w : Bool} {I : Nat → Nat → Int32} {J : Nat → Nat → Int64} : cd_n (cd_mm L w I J) 127 = 4096 := rfl
theorem cd_zR_100_50 {L : Nat} {w : Bool} {I : Nat → Nat → Int32} {J : Nat → Nat → Int64} : (cd_mm L w I J).2.2.2 100 50 = 128 := rfl
theorem cd_zk_128 {L : Nat} {w : Bool} {I : Nat → Nat → Int32} {J : Nat → Nat → Int64} : cd_k (cd_mm L w I J) 128 = 22 := rfl
theorem cd_zn_128 {L : Nat} {w : Bool} {I : Nat → Nat → Int32} {J : Nat → Nat → Int64} : cd_n (cd_mm L w I J) 128 = 4096 := rfl
theorem cd_zk_o0_102_103 {o : Nat} (ho : o = 102 ∨ o = 103) {L : Nat} {w : Bool} {I : Nat → Nat → Int32} {J : Nat → Nat → Int64} : cd_k (cd_mm L w I J) o = 20 := by rcases ho with rfl | rfl <;> rfl
theorem cd_zn_o0_102_103 {o : Nat} (ho : o = 102 ∨ o = 103) {L : Nat} {w : Bool} {I : Nat → Nat → Int32} {J : Nat → Nat → Int64} : cd_n (cd_mm L w I J) o = 8 := by rcases ho with rfl | rfl <;> rfl
theorem cd_zR_100_51 {L : Nat} {w : Bool} {I : Nat → Nat → Int32} {J : Nat → Nat → Int64} : (cd_mm L w I J).2.2.2 100 51 = 129 := rfl
theorem cd_zk_129 {L : Nat} {w : Bool} {I : Nat → Nat → Int32} {J : Nat → Nat → Int64} : cd_k (cd_mm L w I J) 129 = 22 := rfl
theorem cd_zn_129 {L : Nat} {w : Bool} {I : Nat → Nat → Int32} {J : Nat → Nat → Int64} : cd_n (cd_mm L w I J) 129 = 256 := rfl
theorem cd_zR_100_52 {L : Nat} {w : Bool} {I : Nat → Nat → Int32} {J : Nat → Nat → Int64} : (cd_mm L w I J).2.2.2 100 52 = 130 := rfl
theorem cd_zk_130 {L : Nat} {w : Bool} {I : Nat → Nat → Int32} {J : Nat → Nat → Int64} : cd_k (cd_mm L w I J) 130 = 22 := rfl
theorem cd_zn_130 {L : Nat} {w : Bool} {I : Nat → Nat → Int32} {J : Nat → Nat → Int64} : cd_n (cd_mm L w I J) 130 = 256 := rfl
theorem cd_zR_100_53 {L : Nat} {w : Bool} {I : Nat → Nat → Int32} {J : Nat → Nat → Int64} : (cd_mm L w I J).2.2.2 100 53 = 131 := rfl
theorem cd_zk_131 {L : Nat} {w : Bool} {I : Nat → Nat → Int32} {J : Nat → Nat → Int64} : cd_k (cd_mm L w I J) 131 = 22 := rfl
theorem cd_zn_131 {L : Nat} {w : Bool} {I : Nat → Nat → Int32} {J : Nat → Nat → Int64} : cd_n (cd_mm L w I J) 131 = 256 := rfl
theorem cd_zR_100_55 {L : Nat} {w : Bool} {I : Nat → Nat → Int32} {J : Nat → Nat → Int64} : (cd_mm L w I J).2.2.2 100 55 = 132 := rfl
theorem cd_zk_132 {L : Nat} {w : Bool} {I : Nat → Nat → Int32} {J : Nat → Nat → Int64} : cd_k (cd_mm L w I J) 132 = 20 := rfl
theorem cd_zn_132 {L : Nat} {w : Bool} {I : Nat → Nat → Int32} {J : Nat → Nat → Int64} : cd_n (cd_mm L w I J) 132 = 20 := rfl
