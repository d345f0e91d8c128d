/-! ===== the class: how many bits ===== -/
def cb_rep (c : Nat) : Nat → Nat
  | 0 => 0
  | n + 1 => 256 * cb_rep c n + c
theorem cb_and {a b c d : Nat} (hb : b < 256) (hd : d < 256) : (256 * a + b) &&& (256 * c + d) = 256 * (a &&& c) + (b &&& d) := by
  apply Nat.eq_of_testBit_eq
  intro i
  have h1 := Nat.testBit_two_pow_mul_add a (i := 8) hb i
  have h2 := Nat.testBit_two_pow_mul_add c (i := 8) hd i
  have h3 := Nat.testBit_two_pow_mul_add (a &&& c) (i := 8) (show b &&& d < 2 ^ 8 from Nat.lt_of_le_of_lt Nat.and_le_left hb) i
  rw [show (2 : Nat) ^ 8 = 256 from rfl] at h1 h2 h3
  rw [Nat.testBit_and, h1, h2, h3]
  split
  · rw [Nat.testBit_and]
  · rw [Nat.testBit_and]
theorem cb_1 : ∀ e, e < 2 → ∀ x, x < 128 → (128 * e + x) &&& 85 = x &&& 85 := by decide +kernel
theorem cb_2 : ∀ e, e < 4 → ∀ x, x < 64 → (64 * e + x) &&& 51 = x &&& 51 := by decide +kernel
theorem cb_3 : ∀ e, e < 5 → ∀ x, x < 80 → (16 * e + x) &&& 15 = x &&& 15 := by decide +kernel
def cb_y1 (b : Nat) : Nat := b - (b / 2 &&& 85)
def cb_y2 (y : Nat) : Nat := (y &&& 51) + (y / 4 &&& 51)
def cb_y3 (y : Nat) : Nat := (y + y / 16) &&& 15
theorem cb_byte : ∀ b, b < 256 → (b / 2 &&& 85) ≤ b ∧ cb_y1 b < 256 ∧ cb_y2 (cb_y1 b) % 16 ≤ 4 ∧ cb_y2 (cb_y1 b) ≤ 68 ∧ cb_y3 (cb_y2 (cb_y1 b)) = fa_cnt (fun k => b.testBit k) 8 := by decide +kernel
/-- the bytes' counts, as bytes -/
def cb_dg : Nat → Nat → Nat
  | 0, _ => 0
  | n + 1, m => 256 * cb_dg n (m / 256) + fa_cnt (fun k => (m % 256).testBit k) 8
theorem cb_main : ∀ n m, m < 256 ^ n → (m / 2 &&& cb_rep 85 n) ≤ m ∧ ∃ y1 y2, m - (m / 2 &&& cb_rep 85 n) = y1 ∧ (y1 &&& cb_rep 51 n) + (y1 / 4 &&& cb_rep 51 n) = y2 ∧ y2 % 16 ≤ 4 ∧ y2 ≤ cb_rep 68 n ∧ (y2 + y2 / 16) &&& cb_rep 15 n = cb_dg n m := by
  intro n
  induction n with
  | zero =>
    intro m hm
    have : m = 0 := by rw [Nat.pow_zero] at hm; omega
    subst this
    exact ⟨Nat.le_refl _, 0, 0, rfl, rfl, by decide, by decide, rfl⟩
  | succ n ih =>
    intro m hm
    have hm' : m / 256 < 256 ^ n := by rw [Nat.pow_succ] at hm; omega
    obtain ⟨i0, y1, y2, i1, i2, i3, i4, i5⟩ := ih _ hm'
    obtain ⟨b0, b1, b2, b3, b4⟩ := cb_byte (m % 256) (by omega)
    generalize hM : m / 256 = M at *
    generalize hb : m % 256 = b at *
    have hb256 : b < 256 := by omega
    have e1 : m / 2 &&& cb_rep 85 (n + 1) = 256 * (M / 2 &&& cb_rep 85 n) + (b / 2 &&& 85) := by
      rw [show m / 2 = 256 * (M / 2) + (128 * (M % 2) + b / 2) by omega]
      show _ &&& (256 * cb_rep 85 n + 85) = _
      rw [cb_and (by omega) (by decide), cb_1 (M % 2) (by omega) (b / 2) (by omega)]
    have e2 : m - (m / 2 &&& cb_rep 85 (n + 1)) = 256 * y1 + cb_y1 b := by
      unfold cb_y1
      omega
    generalize hc : cb_y1 b = c at *
    have e3 : (256 * y1 + c) &&& cb_rep 51 (n + 1) = 256 * (y1 &&& cb_rep 51 n) + (c &&& 51) := by
      show _ &&& (256 * cb_rep 51 n + 51) = _
      rw [cb_and (by omega) (by decide)]
    have e4 : (256 * y1 + c) / 4 &&& cb_rep 51 (n + 1) = 256 * (y1 / 4 &&& cb_rep 51 n) + (c / 4 &&& 51) := by
      rw [show (256 * y1 + c) / 4 = 256 * (y1 / 4) + (64 * (y1 % 4) + c / 4) by omega]
      show _ &&& (256 * cb_rep 51 n + 51) = _
      rw [cb_and (by omega) (by decide), cb_2 (y1 % 4) (by omega) (c / 4) (by omega)]
    have e5 : ((256 * y1 + c) &&& cb_rep 51 (n + 1)) + ((256 * y1 + c) / 4 &&& cb_rep 51 (n + 1)) = 256 * y2 + cb_y2 c := by
      rw [e3, e4]
      unfold cb_y2
      omega
    generalize hd : cb_y2 c = d at *
    refine ⟨by omega, 256 * y1 + c, 256 * y2 + d, e2, e5, by omega, ?_, ?_⟩
    · show 256 * y2 + d ≤ 256 * cb_rep 68 n + 68
      omega
    · rw [show 256 * y2 + d + (256 * y2 + d) / 16 = 256 * (y2 + y2 / 16) + (16 * (y2 % 16) + (d + d / 16)) by omega]
      show _ &&& (256 * cb_rep 15 n + 15) = _
      rw [cb_and (by omega) (by decide), cb_3 (y2 % 16) (by omega) (d + d / 16) (by omega), i5]
      show 256 * cb_dg n M + cb_y3 d = 256 * cb_dg n (m / 256) + fa_cnt (fun k => (m % 256).testBit k) 8
      rw [b4, hM, hb]
theorem cb_cnt_add (p : Nat → Bool) (a : Nat) : ∀ n, fa_cnt p (a + n) = fa_cnt p a + fa_cnt (fun k => p (a + k)) n := by
  intro n
  induction n with
  | zero => rfl
  | succ n ih =>
    rw [← Nat.add_assoc, ce_cnt_s, ce_cnt_s, ih, Nat.add_assoc]
/-- the sum of the bytes' counts -/
def cb_su : Nat → Nat → Nat
  | 0, _ => 0
  | n + 1, m => fa_cnt (fun k => (m % 256).testBit k) 8 + cb_su n (m / 256)
theorem cb_su_cnt : ∀ n m, cb_su n m = fa_cnt (fun k => m.testBit k) (8 * n) := by
  intro n
  induction n with
  | zero => intro m; rfl
  | succ n ih =>
    intro m
    show fa_cnt (fun k => (m % 256).testBit k) 8 + cb_su n (m / 256) = _
    rw [ih, show 8 * (n + 1) = 8 + 8 * n by omega, cb_cnt_add, ce_cnt_eq (n := 8) (p := fun k => (m % 256).testBit k) (q := fun k => m.testBit k) (fun k hk => by
      show (m % 256).testBit k = m.testBit k
      rw [show 256 = 2 ^ 8 from rfl, Nat.testBit_mod_two_pow, decide_eq_true hk, Bool.true_and]), ce_cnt_eq (n := 8 * n) (p := fun k => (m / 256).testBit k) (q := fun k => m.testBit (8 + k)) (fun k _ => by
      show (m / 256).testBit k = m.testBit (8 + k)
      rw [show 256 = 2 ^ 8 from rfl, Nat.testBit_div_two_pow, Nat.add_comm])]
theorem cb_fold {p0 p1 p2 p3 p4 p5 p6 p7 d0 d1 d2 d3 d4 d5 d6 d7 : Nat} (h0 : p0 ≤ 8) (h1 : p1 ≤ 8) (h2 : p2 ≤ 8) (h3 : p3 ≤ 8) (h4 : p4 ≤ 8) (h5 : p5 ≤ 8) (h6 : p6 ≤ 8) (h7 : p7 ≤ 8) (e0 : d0 = 256 * d1 + p0) (e1 : d1 = 256 * d2 + p1) (e2 : d2 = 256 * d3 + p2) (e3 : d3 = 256 * d4 + p3) (e4 : d4 = 256 * d5 + p4) (e5 : d5 = 256 * d6 + p5) (e6 : d6 = 256 * d7 + p6) (e7 : d7 = p7) : (d0 + d0 / 256 + (d0 + d0 / 256) / 65536 + (d0 + d0 / 256 + (d0 + d0 / 256) / 65536) / 4294967296) % 128 = p0 + p1 + p2 + p3 + p4 + p5 + p6 + p7 := by
  have a1 : d0 / 256 = d1 := by omega
  have f0 : d0 = 65536 * d2 + (256 * p1 + p0) := by omega
  have f1 : d1 = 65536 * d3 + (256 * p2 + p1) := by omega
  have f2 : d2 = 65536 * d4 + (256 * p3 + p2) := by omega
  have f3 : d3 = 65536 * d5 + (256 * p4 + p3) := by omega
  have f4 : d4 = 65536 * d6 + (256 * p5 + p4) := by omega
  have f5 : d5 = 65536 * d7 + (256 * p6 + p5) := by omega
  have a2 : (d0 + d1) / 65536 = d2 + d3 := by
    clear e0 e1 e2 e3 e4 e5 e6 e7 f2 f3 f4 f5 a1
    omega
  have g0 : d0 = 4294967296 * d4 + (65536 * (256 * p3 + p2) + (256 * p1 + p0)) := by
    clear e0 e1 e2 e3 e4 e5 e6 e7 f1 f3 f4 f5 a1 a2
    omega
  have g1 : d1 = 4294967296 * d5 + (65536 * (256 * p4 + p3) + (256 * p2 + p1)) := by
    clear e0 e1 e2 e3 e4 e5 e6 e7 f0 f2 f4 f5 a1 a2 g0
    omega
  have g2 : d2 = 4294967296 * d6 + (65536 * (256 * p5 + p4) + (256 * p3 + p2)) := by
    clear e0 e1 e2 e3 e4 e5 e6 e7 f0 f1 f3 f5 a1 a2 g0 g1
    omega
  have g3 : d3 = 4294967296 * d7 + (65536 * (256 * p6 + p5) + (256 * p4 + p3)) := by
    clear e0 e1 e2 e3 e4 e5 e6 e7 f0 f1 f2 f4 a1 a2 g0 g1 g2
    omega
  have a3 : (d0 + d1 + (d2 + d3)) / 4294967296 = d4 + d5 + d6 + d7 := by
    clear e0 e1 e2 e3 e4 e5 e6 e7 f0 f1 f2 f3 f4 f5 a1 a2
    generalize hx : 65536 * (256 * p3 + p2) + (256 * p1 + p0) + (65536 * (256 * p4 + p3) + (256 * p2 + p1)) + (65536 * (256 * p5 + p4) + (256 * p3 + p2)) + (65536 * (256 * p6 + p5) + (256 * p4 + p3)) = x
    have hxl : x < 4294967296 := by omega
    have hs : d0 + d1 + (d2 + d3) = 4294967296 * (d4 + d5 + d6 + d7) + x := by omega
    rw [hs]
    clear hs hx g0 g1 g2 g3
    omega
  rw [a1, a2, a3]
  clear f0 f1 f2 f3 f4 f5 g0 g1 g2 g3 a1 a2 a3
  have hs : d0 + d1 + (d2 + d3) + (d4 + d5 + d6 + d7) = 128 * (2 * (d1 + d2 + d3 + d4 + d5 + d6 + d7)) + (p0 + p1 + p2 + p3 + p4 + p5 + p6 + p7) := by omega
  rw [hs]
  clear hs e0 e1 e2 e3 e4 e5 e6 e7
  omega
def cb_L1 (x : Int64) : Int64 := x - (((x.toUInt64 >>> ((1 : Int32).toInt64.toUInt64 &&& Int64.toUInt64 63)).toInt64) &&& 6148914691236517205)
def cb_L2 (x : Int64) : Int64 := (x &&& 3689348814741910323) + (((x.toUInt64 >>> ((2 : Int32).toInt64.toUInt64 &&& Int64.toUInt64 63)).toInt64) &&& 3689348814741910323)
def cb_L3 (x : Int64) : Int64 := (x + ((x.toUInt64 >>> ((4 : Int32).toInt64.toUInt64 &&& Int64.toUInt64 63)).toInt64)) &&& 1085102592571150095
def cb_L4 (x : Int64) : Int64 := x + ((x.toUInt64 >>> ((8 : Int32).toInt64.toUInt64 &&& Int64.toUInt64 63)).toInt64)
def cb_L5 (x : Int64) : Int64 := x + ((x.toUInt64 >>> ((16 : Int32).toInt64.toUInt64 &&& Int64.toUInt64 63)).toInt64)
def cb_L6 (x : Int64) : Int64 := x + ((x.toUInt64 >>> ((32 : Int32).toInt64.toUInt64 &&& Int64.toUInt64 63)).toInt64)
theorem cb_cnt8 (p : Nat → Bool) : fa_cnt p 8 ≤ 8 := fa_cnt_le p 8
theorem cb_long {m : Nat} (hm : m < 2 ^ 64) : (cb_L6 (cb_L5 (cb_L4 (cb_L3 (cb_L2 (cb_L1 (lN m))))))).toInt32 &&& 127 = nI (fa_cnt (fun k => m.testBit k) 64) := by
  obtain ⟨h0, y1, y2, h1, h2, h3, h4, h5⟩ := cb_main 8 m (by rw [show (256 : Nat) ^ 8 = 2 ^ 64 from rfl]; exact hm)
  rw [show cb_rep 85 8 = 6148914691236517205 from rfl] at h0 h1
  rw [show cb_rep 51 8 = 3689348814741910323 from rfl] at h2
  rw [show cb_rep 68 8 = 4919131752989213764 from rfl] at h4
  rw [show cb_rep 15 8 = 1085102592571150095 from rfl] at h5
  have hy1 : y1 < 2 ^ 64 := by omega
  have l1 : cb_L1 (lN m) = lN y1 := by
    unfold cb_L1
    rw [show (1 : Int32) = nI 1 from rfl, wb_shr hm (by decide), show (6148914691236517205 : Int64) = lN 6148914691236517205 from rfl, wb_and (by omega) (by decide)]
    rw [lN_sub h0]
    exact congrArg lN h1
  have l2 : cb_L2 (lN y1) = lN y2 := by
    unfold cb_L2
    rw [show (2 : Int32) = nI 2 from rfl, wb_shr hy1 (by decide), show (3689348814741910323 : Int64) = lN 3689348814741910323 from rfl, wb_and (by omega) (by decide), wb_and (by omega) (by decide), lN_add]
    exact congrArg lN h2
  have l3 : cb_L3 (lN y2) = lN (cb_dg 8 m) := by
    unfold cb_L3
    rw [show (4 : Int32) = nI 4 from rfl, wb_shr (by omega) (by decide), show (1085102592571150095 : Int64) = lN 1085102592571150095 from rfl, lN_add, wb_and (by omega) (by decide)]
    exact congrArg lN h5
  have c8 : ∀ x : Nat, fa_cnt (fun k => x.testBit k) 8 ≤ 8 := fun x => fa_cnt_le _ 8
  have hs : fa_cnt (fun k => m.testBit k) 64 = fa_cnt (fun k => (m % 256).testBit k) 8 + fa_cnt (fun k => (m / 256 % 256).testBit k) 8 + fa_cnt (fun k => (m / 256 / 256 % 256).testBit k) 8 + fa_cnt (fun k => (m / 256 / 256 / 256 % 256).testBit k) 8 + fa_cnt (fun k => (m / 256 / 256 / 256 / 256 % 256).testBit k) 8 + fa_cnt (fun k => (m / 256 / 256 / 256 / 256 / 256 % 256).testBit k) 8 + fa_cnt (fun k => (m / 256 / 256 / 256 / 256 / 256 / 256 % 256).testBit k) 8 + fa_cnt (fun k => (m / 256 / 256 / 256 / 256 / 256 / 256 / 256 % 256).testBit k) 8 := by
    rw [show 64 = 8 * 8 from rfl, ← cb_su_cnt 8 m]
    show fa_cnt (fun k => (m % 256).testBit k) 8 + (fa_cnt (fun k => (m / 256 % 256).testBit k) 8 + (fa_cnt (fun k => (m / 256 / 256 % 256).testBit k) 8 + (fa_cnt (fun k => (m / 256 / 256 / 256 % 256).testBit k) 8 + (fa_cnt (fun k => (m / 256 / 256 / 256 / 256 % 256).testBit k) 8 + (fa_cnt (fun k => (m / 256 / 256 / 256 / 256 / 256 % 256).testBit k) 8 + (fa_cnt (fun k => (m / 256 / 256 / 256 / 256 / 256 / 256 % 256).testBit k) 8 + (fa_cnt (fun k => (m / 256 / 256 / 256 / 256 / 256 / 256 / 256 % 256).testBit k) 8 + 0))))))) = _
    rw [Nat.add_zero]
    simp only [Nat.add_assoc]
  have fold := cb_fold (c8 (m % 256)) (c8 (m / 256 % 256)) (c8 (m / 256 / 256 % 256)) (c8 (m / 256 / 256 / 256 % 256)) (c8 (m / 256 / 256 / 256 / 256 % 256)) (c8 (m / 256 / 256 / 256 / 256 / 256 % 256)) (c8 (m / 256 / 256 / 256 / 256 / 256 / 256 % 256)) (c8 (m / 256 / 256 / 256 / 256 / 256 / 256 / 256 % 256)) (d0 := cb_dg 8 m) (d1 := cb_dg 7 (m / 256)) (d2 := cb_dg 6 (m / 256 / 256)) (d3 := cb_dg 5 (m / 256 / 256 / 256)) (d4 := cb_dg 4 (m / 256 / 256 / 256 / 256)) (d5 := cb_dg 3 (m / 256 / 256 / 256 / 256 / 256)) (d6 := cb_dg 2 (m / 256 / 256 / 256 / 256 / 256 / 256)) (d7 := cb_dg 1 (m / 256 / 256 / 256 / 256 / 256 / 256 / 256)) rfl rfl rfl rfl rfl rfl rfl (by
    show 256 * 0 + _ = _
    rw [Nat.mul_zero, Nat.zero_add])
  rw [← hs] at fold
  have hdl : cb_dg 8 m ≤ 1085102592571150095 := by rw [← h5]; exact Nat.and_le_right
  rw [l1, l2, l3]
  clear h5 h4 h3 h2 h1 h0 l1 l2 l3 hs c8
  generalize cb_dg 8 m = d at *
  have l4 : cb_L4 (lN d) = lN (d + d / 256) := by
    unfold cb_L4
    rw [show (8 : Int32) = nI 8 from rfl, wb_shr (by omega) (by decide), lN_add]
  rw [l4]
  generalize hs1 : d + d / 256 = s1 at *
  have l5 : cb_L5 (lN s1) = lN (s1 + s1 / 65536) := by
    unfold cb_L5
    rw [show (16 : Int32) = nI 16 from rfl, wb_shr (by omega) (by decide), lN_add]
  rw [l5]
  have hs1b : s1 ≤ 2 * 1085102592571150095 := by omega
  clear hs1 hdl l4
  generalize hs2 : s1 + s1 / 65536 = s2 at *
  have l6 : cb_L6 (lN s2) = lN (s2 + s2 / 4294967296) := by
    unfold cb_L6
    rw [show (32 : Int32) = nI 32 from rfl, wb_shr (by omega) (by decide), lN_add]
  rw [l6, lN_i, show (127 : Int32) = nI (2 ^ 7 - 1) from rfl, fa_mask]
  exact congrArg nI fold
def cb_I1 (x : Int32) : Int32 := x - (((x.toUInt32 >>> ((1 : Int32).toUInt32 &&& Int32.toUInt32 31)).toInt32) &&& 1431655765)
def cb_I2 (x : Int32) : Int32 := (x &&& 858993459) + (((x.toUInt32 >>> ((2 : Int32).toUInt32 &&& Int32.toUInt32 31)).toInt32) &&& 858993459)
def cb_I3 (x : Int32) : Int32 := (x + ((x.toUInt32 >>> ((4 : Int32).toUInt32 &&& Int32.toUInt32 31)).toInt32)) &&& 252645135
def cb_I4 (x : Int32) : Int32 := x + ((x.toUInt32 >>> ((8 : Int32).toUInt32 &&& Int32.toUInt32 31)).toInt32)
def cb_I5 (x : Int32) : Int32 := x + ((x.toUInt32 >>> ((16 : Int32).toUInt32 &&& Int32.toUInt32 31)).toInt32)
theorem cb_int : ∀ a, a < 64 → ∀ b, b < 64 → cb_I5 (cb_I4 (cb_I3 (cb_I2 (cb_I1 (nI (64 * a + b)))))) &&& 63 = nI (fa_cnt (fun k => (64 * a + b).testBit k) 12) := by decide +kernel
section CGE
variable {L : Nat} {w : Bool} {I : Nat → Nat → Int32} {J : Nat → Nat → Int64} {D : cd_D} {S : cd_S}
theorem cp_93 {m : Nat} (hm : m < 2 ^ 64) : cd_c 93 [.long (lN m)] (cd_mm L w I J) = some (some (.int (nI (fa_cnt (fun k => m.testBit k) 64))), cd_mm L w I J) := by
  refine cd_c_of (l := [_, _]) rfl rfl (cd_s93_0 (congrArg (fun x => some (some (Value.int x), cd_mm L w I J)) ?_))
  exact cb_long hm
theorem cp_93m (f : Nat → Bool) : cd_c 93 [.long (lN (ce_msk f 64))] (cd_mm L w I J) = some (some (.int (nI (fa_cnt f 64))), cd_mm L w I J) := by
  rw [cp_93 (ce_msk_lt f 64), ce_cnt_eq (n := 64) (q := f) (fun k hk => cf_und_tb hk)]
theorem cp_47 {m : Nat} (hm : m < 4096) : cd_c 47 [.int (nI m)] (cd_mm L w I J) = some (some (.int (nI (fa_cnt (fun k => m.testBit k) 12))), cd_mm L w I J) := by
  refine cd_c_of (l := [_]) rfl rfl (cd_s47_0 (congrArg (fun x => some (some (Value.int x), cd_mm L w I J)) ?_))
  have := cb_int (m / 64) (by omega) (m % 64) (by omega)
  rw [show 64 * (m / 64) + m % 64 = m by omega] at this
  exact this
theorem cf_cnt_low {m n a : Nat} (hm : m < 2 ^ n) (hn : n ≤ a) : fa_cnt (fun k => m.testBit k) a = fa_cnt (fun k => m.testBit k) n := by
  obtain ⟨d, rfl⟩ : ∃ d, a = n + d := ⟨a - n, by omega⟩
  rw [cb_cnt_add]
  have : fa_cnt (fun k => m.testBit (n + k)) d = 0 := by
    have h : ∀ e, fa_cnt (fun k => m.testBit (n + k)) e = 0 := by
      intro e
      induction e with
      | zero => rfl
      | succ e ih => rw [ce_cnt_s, ih, cf_low hm (by omega)]; rfl
    exact h d
  omega
end CGE
