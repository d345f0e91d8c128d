/-! ===== the law: its turns ===== -/
section CLB
variable {L : Nat} {w : Bool} {I : Nat → Nat → Int32} {J : Nat → Nat → Int64} {D : cd_D} {S : cd_S} {Y : ce_Y} {xs : Nat → Int32}
theorem cl_if {c : Prop} [Decidable c] {t e : Option cd_Ret} {r : cd_Ret} (h1 : c) (h : t = some r) : (if c then t else e) = some r := (if_pos h1).trans h
theorem cl_ife {c : Prop} [Decidable c] {t e : Option cd_Ret} {r : cd_Ret} (h1 : ¬ c) (h : e = some r) : (if c then t else e) = some r := (if_neg h1).trans h
theorem cl_ci {x : Option cd_Ret} {a : Int32} {M : cd_M} {f : Int32 × cd_M → Option cd_Ret} {r : cd_Ret} (h1 : x = some (some (.int a), M)) (h : f (a, M) = some r) : (cd_ci x).bind f = some r := by
  rw [h1]
  exact h
theorem cl_cl {x : Option cd_Ret} {a : Int64} {M : cd_M} {f : Int64 × cd_M → Option cd_Ret} {r : cd_Ret} (h1 : x = some (some (.long a), M)) (h : f (a, M) = some r) : (cd_cl x).bind f = some r := by
  rw [h1]
  exact h
/-- the class's cells under the reference's doings -/
theorem cf_M.fC {I1 : Nat → Nat → Int32} {J1 : Nat → Nat → Int64} (h : cf_M D S Y w I J) (hU : ceU Y ≤ 4) (g : ce_fC I J I1 J1) : cf_M D S Y w I1 J1 := by
  obtain ⟨⟨a, b, c, d, e⟩, f⟩ := h
  obtain ⟨g, gJ⟩ := g
  have hp := cf_ple w
  exact ⟨⟨a.of (fun a k h1 h2 => g a k (by omega)) (fun k => gJ _ _ (by omega)), b.of (fun a k h1 h2 => g a k (by omega)), (g _ _ (by omega)).trans c, d.of hU (fun a k h => g a k (by omega)), e.of (fun k hk => g _ _ (by omega)) (fun k => gJ _ _ (by omega))⟩, f.of (fun a k h1 h2 => g a k (by omega)) (fun k => gJ _ _ (by omega))⟩
/-- both stand as told, and the script as given -/
def cl_V (xs : Nat → Int32) (D : cd_D) (S : cd_S) (Y : ce_Y) (w : Bool) (I : Nat → Nat → Int32) (J : Nat → Nat → Int64) : Prop := ce_ok D S Y ∧ ce_M D S Y I ∧ cf_M D S Y w I J ∧ I 1 = xs
theorem cl_run {α : Type} {mk : α → Value} {c r : (Nat → Int32) → cd_M → Option cd_Ret} (hV : cl_V xs D S Y w I J) (h : cl_op L mk (c (I 1)) (r (I 1)) D S Y w I J) : ∃ (a : α) (D1 : cd_D) (S1 : cd_S) (Y1 : ce_Y) (w1 : Bool) (I1 : Nat → Nat → Int32) (J1 : Nat → Nat → Int64) (I2 : Nat → Nat → Int32) (J2 : Nat → Nat → Int64), c (I 1) (cd_mm L w I J) = some (some (mk a), cd_mm L w1 I1 J1) ∧ r (I1 1) (cd_mm L w1 I1 J1) = some (some (mk a), cd_mm L w1 I2 J2) ∧ I1 1 = I 1 ∧ cl_V xs D1 S1 Y1 w1 I2 J2 := by
  obtain ⟨a, D1, S1, Y1, w1, hK1, ⟨v, I1, J1, e1, rfl, hM1, f1⟩, hr⟩ := h
  have hX : I1 1 = I 1 := funext fun k => f1 1 k (Or.inl rfl)
  have hR1 : ce_M D S Y I1 := hV.2.1.of hV.1.1 (fun a k ha _ => f1 a k (Or.inr ha))
  obtain ⟨v2, I2, J2, e2, rfl, hR2, f2⟩ := hr w1 I1 J1 hR1
  refine ⟨a, D1, S1, Y1, w1, I1, J1, I2, J2, e1, ?_, hX, hK1, hR2, hM1.fC hK1.2.2.1.2.2.2.1 f2, ?_⟩
  · rw [hX]
    exact e2
  · rw [show I2 1 = I1 1 from funext fun k => f2.1 1 k (by decide), hX]
    exact hV.2.2.2
def cl_go (L : Nat) (xs : Nat → Int32) (i P : Nat) (D : cd_D) (S : cd_S) (Y : ce_Y) (w : Bool) (I : Nat → Nat → Int32) (J : Nat → Nat → Int64) : Prop := ∃ (D1 : cd_D) (S1 : cd_S) (Y1 : ce_Y) (w1 : Bool) (I1 : Nat → Nat → Int32) (J1 : Nat → Nat → Int64), cl_V xs D1 S1 Y1 w1 I1 J1 ∧ ∀ r, cd_go 246 739 [.ref 1, .ref 2, .ref 100, .int (nI i)] [] (cd_mm L w1 I1 J1) = some r → cd_go 246 P [.ref 1, .ref 2, .ref 100, .int (nI i)] [] (cd_mm L w I J) = some r
theorem cl_in {i k : Nat} (hi : i + 5 ≤ L) (hL : L ≤ 2560) (hk : k ≤ 4) : cd_in (nI (i + k)) L = true := cd_inN (by omega) (by omega)
theorem cl_in1 {i : Nat} (hi : i + 5 ≤ L) (hL : L ≤ 2560) : cd_in (nI i + 1) L = true := by rw [nI_1]; exact cl_in hi hL (by decide)
theorem cl_in2 {i : Nat} (hi : i + 5 ≤ L) (hL : L ≤ 2560) : cd_in (nI i + 2) L = true := by rw [show nI i + 2 = nI (i + 2) from nI_add i 2]; exact cl_in hi hL (by decide)
theorem cl_in3 {i : Nat} (hi : i + 5 ≤ L) (hL : L ≤ 2560) : cd_in (nI i + 3) L = true := by rw [show nI i + 3 = nI (i + 3) from nI_add i 3]; exact cl_in hi hL (by decide)
theorem cl_in4 {i : Nat} (hi : i + 5 ≤ L) (hL : L ≤ 2560) : cd_in (nI i + 4) L = true := by rw [show nI i + 4 = nI (i + 4) from nI_add i 4]; exact cl_in hi hL (by decide)
theorem cl_g22 (hV : cl_V xs D S Y w I J) {i : Nat} (hi : i + 5 ≤ L) (hL : L ≤ 2560) : cl_go L xs i 22 D S Y w I J := by
  obtain ⟨a, D1, S1, Y1, w1, I1, J1, I2, J2, e1, e2, hX, hV2⟩ := cl_run (L := L) (mk := Value.int) (c := fun X => cd_c 13 [.ref 2, .int (X (nI i + 1).toNatClampNeg), .long ((((X (nI i + 2).toNatClampNeg).toInt64) <<< ((32 : Int32).toInt64 &&& 63)) ||| (((X (nI i + 3).toNatClampNeg).toInt64) &&& 4294967295))]) (r := fun X => cd_c 151 [.ref 100, .int (X (nI i + 1).toNatClampNeg), .long ((((X (nI i + 2).toNatClampNeg).toInt64) <<< ((32 : Int32).toInt64 &&& 63)) ||| (((X (nI i + 3).toNatClampNeg).toInt64) &&& 4294967295))]) hV (cl_13 hV.1 hV.2.2.1)
  refine ⟨D1, S1, Y1, w1, I2, J2, hV2, fun r hr => ?_⟩
  refine cd_q246_22 (cl_if ⟨rfl, cl_in1 hi hL⟩ (cl_if ⟨rfl, cl_in2 hi hL⟩ (cl_if ⟨rfl, cl_in3 hi hL⟩ (cl_if rfl (cl_ci e1 ?_)))))
  refine cd_q246_46 (cl_if ⟨rfl, cl_in1 hi hL⟩ (cl_if ⟨rfl, cl_in2 hi hL⟩ (cl_if ⟨rfl, cl_in3 hi hL⟩ (cl_if rfl (cl_ci e2 ?_)))))
  exact cd_q246_70 (cl_if rfl hr)
theorem cl_g73 (hV : cl_V xs D S Y w I J) {i : Nat} (hi : i + 5 ≤ L) (hL : L ≤ 2560) : cl_go L xs i 73 D S Y w I J := by
  obtain ⟨a, D1, S1, Y1, w1, I1, J1, I2, J2, e1, e2, hX, hV2⟩ := cl_run (L := L) (mk := Value.int) (c := fun X => cd_c 42 [.ref 2]) (r := fun X => cd_c 170 [.ref 100]) hV (cl_42 hV.1 hV.2.2.1)
  refine ⟨D1, S1, Y1, w1, I2, J2, hV2, fun r hr => ?_⟩
  refine cd_q246_73 (cl_if rfl (cl_ci e1 ?_))
  refine cd_q246_75 (cl_if rfl (cl_ci e2 ?_))
  exact cd_q246_77 (cl_if rfl hr)
theorem cl_g80 (hV : cl_V xs D S Y w I J) {i : Nat} (hi : i + 5 ≤ L) (hL : L ≤ 2560) : cl_go L xs i 80 D S Y w I J := by
  obtain ⟨a, D1, S1, Y1, w1, I1, J1, I2, J2, e1, e2, hX, hV2⟩ := cl_run (L := L) (mk := Value.int) (c := fun X => cd_c 45 [.ref 2]) (r := fun X => cd_c 239 [.ref 100]) hV (cl_45 hV.1 hV.2.2.1)
  refine ⟨D1, S1, Y1, w1, I2, J2, hV2, fun r hr => ?_⟩
  refine cd_q246_80 (cl_if rfl (cl_ci e1 ?_))
  refine cd_q246_82 (cl_if rfl (cl_ci e2 ?_))
  exact cd_q246_84 (cl_if rfl hr)
theorem cl_g87 (hV : cl_V xs D S Y w I J) {i : Nat} (hi : i + 5 ≤ L) (hL : L ≤ 2560) : cl_go L xs i 87 D S Y w I J := by
  obtain ⟨a, D1, S1, Y1, w1, I1, J1, I2, J2, e1, e2, hX, hV2⟩ := cl_run (L := L) (mk := Value.int) (c := fun X => cd_c 46 [.ref 2]) (r := fun X => cd_c 171 [.ref 100]) hV (cl_46 hV.1 hV.2.2.1)
  refine ⟨D1, S1, Y1, w1, I2, J2, hV2, fun r hr => ?_⟩
  refine cd_q246_87 (cl_if rfl (cl_ci e1 ?_))
  refine cd_q246_89 (cl_if rfl (cl_ci e2 ?_))
  exact cd_q246_91 (cl_if rfl hr)
theorem cl_g94 (hV : cl_V xs D S Y w I J) {i : Nat} (hi : i + 5 ≤ L) (hL : L ≤ 2560) : cl_go L xs i 94 D S Y w I J := by
  obtain ⟨a, D1, S1, Y1, w1, I1, J1, I2, J2, e1, e2, hX, hV2⟩ := cl_run (L := L) (mk := Value.int) (c := fun X => cd_c 48 [.ref 2, .int (X (nI i + 1).toNatClampNeg)]) (r := fun X => cd_c 184 [.ref 100, .int (X (nI i + 1).toNatClampNeg)]) hV (cl_48 hV.1 hV.2.2.1)
  refine ⟨D1, S1, Y1, w1, I2, J2, hV2, fun r hr => ?_⟩
  refine cd_q246_94 (cl_if ⟨rfl, cl_in1 hi hL⟩ (cl_if rfl (cl_ci e1 ?_)))
  refine cd_q246_101 (cl_if ⟨rfl, cl_in1 hi hL⟩ (cl_if rfl (cl_ci e2 ?_)))
  exact cd_q246_108 (cl_if rfl hr)
theorem cl_g111 (hV : cl_V xs D S Y w I J) {i : Nat} (hi : i + 5 ≤ L) (hL : L ≤ 2560) : cl_go L xs i 111 D S Y w I J := by
  obtain ⟨a, D1, S1, Y1, w1, I1, J1, I2, J2, e1, e2, hX, hV2⟩ := cl_run (L := L) (mk := Value.int) (c := fun X => cd_c 63 [.ref 2, .int (X (nI i + 1).toNatClampNeg), .int (X (nI i + 2).toNatClampNeg)]) (r := fun X => cd_c 185 [.ref 100, .int (X (nI i + 1).toNatClampNeg), .int (X (nI i + 2).toNatClampNeg)]) hV (cl_63 hV.1 hV.2.2.1)
  refine ⟨D1, S1, Y1, w1, I2, J2, hV2, fun r hr => ?_⟩
  refine cd_q246_111 (cl_if ⟨rfl, cl_in1 hi hL⟩ (cl_if ⟨rfl, cl_in2 hi hL⟩ (cl_if rfl (cl_ci e1 ?_))))
  refine cd_q246_123 (cl_if ⟨rfl, cl_in1 hi hL⟩ (cl_if ⟨rfl, cl_in2 hi hL⟩ (cl_if rfl (cl_ci e2 ?_))))
  exact cd_q246_135 (cl_if rfl hr)
theorem cl_g138 (hV : cl_V xs D S Y w I J) {i : Nat} (hi : i + 5 ≤ L) (hL : L ≤ 2560) : cl_go L xs i 138 D S Y w I J := by
  obtain ⟨a, D1, S1, Y1, w1, I1, J1, I2, J2, e1, e2, hX, hV2⟩ := cl_run (L := L) (mk := Value.int) (c := fun X => cd_c 67 [.ref 2, .int (X (nI i + 1).toNatClampNeg), .int (X (nI i + 2).toNatClampNeg)]) (r := fun X => cd_c 186 [.ref 100, .int (X (nI i + 1).toNatClampNeg), .int (X (nI i + 2).toNatClampNeg)]) hV (cl_67 hV.1 hV.2.2.1)
  refine ⟨D1, S1, Y1, w1, I2, J2, hV2, fun r hr => ?_⟩
  refine cd_q246_138 (cl_if ⟨rfl, cl_in1 hi hL⟩ (cl_if ⟨rfl, cl_in2 hi hL⟩ (cl_if rfl (cl_ci e1 ?_))))
  refine cd_q246_150 (cl_if ⟨rfl, cl_in1 hi hL⟩ (cl_if ⟨rfl, cl_in2 hi hL⟩ (cl_if rfl (cl_ci e2 ?_))))
  exact cd_q246_162 (cl_if rfl hr)
theorem cl_g165 (hV : cl_V xs D S Y w I J) {i : Nat} (hi : i + 5 ≤ L) (hL : L ≤ 2560) : cl_go L xs i 165 D S Y w I J := by
  obtain ⟨a, D1, S1, Y1, w1, I1, J1, I2, J2, e1, e2, hX, hV2⟩ := cl_run (L := L) (mk := Value.int) (c := fun X => cd_c 70 [.ref 2, .int (X (nI i + 1).toNatClampNeg), .int (X (nI i + 2).toNatClampNeg)]) (r := fun X => cd_c 188 [.ref 100, .int (X (nI i + 1).toNatClampNeg), .int (X (nI i + 2).toNatClampNeg)]) hV (cl_70 hV.1 hV.2.2.1)
  refine ⟨D1, S1, Y1, w1, I2, J2, hV2, fun r hr => ?_⟩
  refine cd_q246_165 (cl_if ⟨rfl, cl_in1 hi hL⟩ (cl_if ⟨rfl, cl_in2 hi hL⟩ (cl_if rfl (cl_ci e1 ?_))))
  refine cd_q246_177 (cl_if ⟨rfl, cl_in1 hi hL⟩ (cl_if ⟨rfl, cl_in2 hi hL⟩ (cl_if rfl (cl_ci e2 ?_))))
  exact cd_q246_189 (cl_if rfl hr)
theorem cl_g192 (hV : cl_V xs D S Y w I J) {i : Nat} (hi : i + 5 ≤ L) (hL : L ≤ 2560) : cl_go L xs i 192 D S Y w I J := by
  obtain ⟨a, D1, S1, Y1, w1, I1, J1, I2, J2, e1, e2, hX, hV2⟩ := cl_run (L := L) (mk := Value.int) (c := fun X => cd_c 71 [.ref 2, .int (X (nI i + 1).toNatClampNeg), .int (X (nI i + 2).toNatClampNeg)]) (r := fun X => cd_c 189 [.ref 100, .int (X (nI i + 1).toNatClampNeg), .int (X (nI i + 2).toNatClampNeg)]) hV (cl_71 hV.1 hV.2.2.1)
  refine ⟨D1, S1, Y1, w1, I2, J2, hV2, fun r hr => ?_⟩
  refine cd_q246_192 (cl_if ⟨rfl, cl_in1 hi hL⟩ (cl_if ⟨rfl, cl_in2 hi hL⟩ (cl_if rfl (cl_ci e1 ?_))))
  refine cd_q246_204 (cl_if ⟨rfl, cl_in1 hi hL⟩ (cl_if ⟨rfl, cl_in2 hi hL⟩ (cl_if rfl (cl_ci e2 ?_))))
  exact cd_q246_216 (cl_if rfl hr)
theorem cl_g219 (hV : cl_V xs D S Y w I J) {i : Nat} (hi : i + 5 ≤ L) (hL : L ≤ 2560) : cl_go L xs i 219 D S Y w I J := by
  obtain ⟨a, D1, S1, Y1, w1, I1, J1, I2, J2, e1, e2, hX, hV2⟩ := cl_run (L := L) (mk := Value.int) (c := fun X => cd_c 73 [.ref 2, .int (X (nI i + 1).toNatClampNeg)]) (r := fun X => cd_c 191 [.ref 100, .int (X (nI i + 1).toNatClampNeg)]) hV (cl_73 hV.1 hV.2.2.1)
  refine ⟨D1, S1, Y1, w1, I2, J2, hV2, fun r hr => ?_⟩
  refine cd_q246_219 (cl_if ⟨rfl, cl_in1 hi hL⟩ (cl_if rfl (cl_ci e1 ?_)))
  refine cd_q246_226 (cl_if ⟨rfl, cl_in1 hi hL⟩ (cl_if rfl (cl_ci e2 ?_)))
  exact cd_q246_233 (cl_if rfl hr)
theorem cl_g236 (hV : cl_V xs D S Y w I J) {i : Nat} (hi : i + 5 ≤ L) (hL : L ≤ 2560) : cl_go L xs i 236 D S Y w I J := by
  obtain ⟨a, D1, S1, Y1, w1, I1, J1, I2, J2, e1, e2, hX, hV2⟩ := cl_run (L := L) (mk := Value.int) (c := fun X => cd_c 76 [.ref 2, .int (X (nI i + 1).toNatClampNeg), .int (X (nI i + 2).toNatClampNeg)]) (r := fun X => cd_c 192 [.ref 100, .int (X (nI i + 1).toNatClampNeg), .int (X (nI i + 2).toNatClampNeg)]) hV (cl_76 hV.1 hV.2.2.1)
  refine ⟨D1, S1, Y1, w1, I2, J2, hV2, fun r hr => ?_⟩
  refine cd_q246_236 (cl_if ⟨rfl, cl_in1 hi hL⟩ (cl_if ⟨rfl, cl_in2 hi hL⟩ (cl_if rfl (cl_ci e1 ?_))))
  refine cd_q246_248 (cl_if ⟨rfl, cl_in1 hi hL⟩ (cl_if ⟨rfl, cl_in2 hi hL⟩ (cl_if rfl (cl_ci e2 ?_))))
  exact cd_q246_260 (cl_if rfl hr)
theorem cl_g263 (hV : cl_V xs D S Y w I J) {i : Nat} (hi : i + 5 ≤ L) (hL : L ≤ 2560) : cl_go L xs i 263 D S Y w I J := by
  obtain ⟨a, D1, S1, Y1, w1, I1, J1, I2, J2, e1, e2, hX, hV2⟩ := cl_run (L := L) (mk := Value.int) (c := fun X => cd_c 83 [.ref 2, .int (X (nI i + 1).toNatClampNeg), .int (X (nI i + 2).toNatClampNeg)]) (r := fun X => cd_c 197 [.ref 100, .int (X (nI i + 1).toNatClampNeg), .int (X (nI i + 2).toNatClampNeg)]) hV (cl_83 hV.1 hV.2.2.1)
  refine ⟨D1, S1, Y1, w1, I2, J2, hV2, fun r hr => ?_⟩
  refine cd_q246_263 (cl_if ⟨rfl, cl_in1 hi hL⟩ (cl_if ⟨rfl, cl_in2 hi hL⟩ (cl_if rfl (cl_ci e1 ?_))))
  refine cd_q246_275 (cl_if ⟨rfl, cl_in1 hi hL⟩ (cl_if ⟨rfl, cl_in2 hi hL⟩ (cl_if rfl (cl_ci e2 ?_))))
  exact cd_q246_287 (cl_if rfl hr)
theorem cl_g290 (hV : cl_V xs D S Y w I J) {i : Nat} (hi : i + 5 ≤ L) (hL : L ≤ 2560) : cl_go L xs i 290 D S Y w I J := by
  obtain ⟨a, D1, S1, Y1, w1, I1, J1, I2, J2, e1, e2, hX, hV2⟩ := cl_run (L := L) (mk := Value.int) (c := fun X => cd_c 84 [.ref 2, .int (X (nI i + 1).toNatClampNeg), .int (X (nI i + 2).toNatClampNeg)]) (r := fun X => cd_c 198 [.ref 100, .int (X (nI i + 1).toNatClampNeg), .int (X (nI i + 2).toNatClampNeg)]) hV (cl_84 hV.1 hV.2.2.1)
  refine ⟨D1, S1, Y1, w1, I2, J2, hV2, fun r hr => ?_⟩
  refine cd_q246_290 (cl_if ⟨rfl, cl_in1 hi hL⟩ (cl_if ⟨rfl, cl_in2 hi hL⟩ (cl_if rfl (cl_ci e1 ?_))))
  refine cd_q246_302 (cl_if ⟨rfl, cl_in1 hi hL⟩ (cl_if ⟨rfl, cl_in2 hi hL⟩ (cl_if rfl (cl_ci e2 ?_))))
  exact cd_q246_314 (cl_if rfl hr)
theorem cl_g317 (hV : cl_V xs D S Y w I J) {i : Nat} (hi : i + 5 ≤ L) (hL : L ≤ 2560) : cl_go L xs i 317 D S Y w I J := by
  obtain ⟨a, D1, S1, Y1, w1, I1, J1, I2, J2, e1, e2, hX, hV2⟩ := cl_run (L := L) (mk := Value.int) (c := fun X => cd_c 85 [.ref 2]) (r := fun X => cd_c 199 [.ref 100]) hV (cl_85 hV.1 hV.2.2.1)
  refine ⟨D1, S1, Y1, w1, I2, J2, hV2, fun r hr => ?_⟩
  refine cd_q246_317 (cl_if rfl (cl_ci e1 ?_))
  refine cd_q246_319 (cl_if rfl (cl_ci e2 ?_))
  exact cd_q246_321 (cl_if rfl hr)
theorem cl_g324 (hV : cl_V xs D S Y w I J) {i : Nat} (hi : i + 5 ≤ L) (hL : L ≤ 2560) : cl_go L xs i 324 D S Y w I J := by
  obtain ⟨a, D1, S1, Y1, w1, I1, J1, I2, J2, e1, e2, hX, hV2⟩ := cl_run (L := L) (mk := Value.int) (c := fun X => cd_c 86 [.ref 2, .int (X (nI i + 1).toNatClampNeg), .int (X (nI i + 2).toNatClampNeg)]) (r := fun X => cd_c 200 [.ref 100, .int (X (nI i + 1).toNatClampNeg), .int (X (nI i + 2).toNatClampNeg)]) hV (cl_86 hV.1 hV.2.2.1)
  refine ⟨D1, S1, Y1, w1, I2, J2, hV2, fun r hr => ?_⟩
  refine cd_q246_324 (cl_if ⟨rfl, cl_in1 hi hL⟩ (cl_if ⟨rfl, cl_in2 hi hL⟩ (cl_if rfl (cl_ci e1 ?_))))
  refine cd_q246_336 (cl_if ⟨rfl, cl_in1 hi hL⟩ (cl_if ⟨rfl, cl_in2 hi hL⟩ (cl_if rfl (cl_ci e2 ?_))))
  exact cd_q246_348 (cl_if rfl hr)
theorem cl_g351 (hV : cl_V xs D S Y w I J) {i : Nat} (hi : i + 5 ≤ L) (hL : L ≤ 2560) : cl_go L xs i 351 D S Y w I J := by
  obtain ⟨a, D1, S1, Y1, w1, I1, J1, I2, J2, e1, e2, hX, hV2⟩ := cl_run (L := L) (mk := Value.int) (c := fun X => cd_c 87 [.ref 2, .int (X (nI i + 1).toNatClampNeg)]) (r := fun X => cd_c 201 [.ref 100, .int (X (nI i + 1).toNatClampNeg)]) hV (cl_87 hV.1 hV.2.2.1)
  refine ⟨D1, S1, Y1, w1, I2, J2, hV2, fun r hr => ?_⟩
  refine cd_q246_351 (cl_if ⟨rfl, cl_in1 hi hL⟩ (cl_if rfl (cl_ci e1 ?_)))
  refine cd_q246_358 (cl_if ⟨rfl, cl_in1 hi hL⟩ (cl_if rfl (cl_ci e2 ?_)))
  exact cd_q246_365 (cl_if rfl hr)
theorem cl_g368 (hV : cl_V xs D S Y w I J) {i : Nat} (hi : i + 5 ≤ L) (hL : L ≤ 2560) : cl_go L xs i 368 D S Y w I J := by
  obtain ⟨a, D1, S1, Y1, w1, I1, J1, I2, J2, e1, e2, hX, hV2⟩ := cl_run (L := L) (mk := Value.int) (c := fun X => cd_c 101 [.ref 2, .int (X (nI i + 1).toNatClampNeg), .int (X (nI i + 2).toNatClampNeg)]) (r := fun X => cd_c 212 [.ref 100, .int (X (nI i + 1).toNatClampNeg), .int (X (nI i + 2).toNatClampNeg)]) hV (cl_101 hV.1 hV.2.2.1)
  refine ⟨D1, S1, Y1, w1, I2, J2, hV2, fun r hr => ?_⟩
  refine cd_q246_368 (cl_if ⟨rfl, cl_in1 hi hL⟩ (cl_if ⟨rfl, cl_in2 hi hL⟩ (cl_if rfl (cl_ci e1 ?_))))
  refine cd_q246_380 (cl_if ⟨rfl, cl_in1 hi hL⟩ (cl_if ⟨rfl, cl_in2 hi hL⟩ (cl_if rfl (cl_ci e2 ?_))))
  exact cd_q246_392 (cl_if rfl hr)
theorem cl_g395 (hV : cl_V xs D S Y w I J) {i : Nat} (hi : i + 5 ≤ L) (hL : L ≤ 2560) : cl_go L xs i 395 D S Y w I J := by
  obtain ⟨a, D1, S1, Y1, w1, I1, J1, I2, J2, e1, e2, hX, hV2⟩ := cl_run (L := L) (mk := Value.long) (c := fun X => cd_c 102 [.ref 2, .int (X (nI i + 1).toNatClampNeg)]) (r := fun X => cd_c 213 [.ref 100, .int (X (nI i + 1).toNatClampNeg)]) hV (cl_102 hV.1 hV.2.2.1)
  refine ⟨D1, S1, Y1, w1, I2, J2, hV2, fun r hr => ?_⟩
  refine cd_q246_395 (cl_if ⟨rfl, cl_in1 hi hL⟩ (cl_if rfl (cl_cl e1 ?_)))
  refine cd_q246_402 (cl_if ⟨rfl, cl_in1 hi hL⟩ (cl_if rfl (cl_cl e2 ?_)))
  exact cd_q246_409 (cl_if ((lg_cmp_eq _ _).mpr rfl) hr)
theorem cl_g413 (hV : cl_V xs D S Y w I J) {i : Nat} (hi : i + 5 ≤ L) (hL : L ≤ 2560) : cl_go L xs i 413 D S Y w I J := by
  obtain ⟨a, D1, S1, Y1, w1, I1, J1, I2, J2, e1, e2, hX, hV2⟩ := cl_run (L := L) (mk := Value.int) (c := fun X => cd_c 104 [.ref 2, .int (X (nI i + 1).toNatClampNeg)]) (r := fun X => cd_c 214 [.ref 100, .int (X (nI i + 1).toNatClampNeg)]) hV (cl_104 hV.1 hV.2.2.1)
  refine ⟨D1, S1, Y1, w1, I2, J2, hV2, fun r hr => ?_⟩
  refine cd_q246_413 (cl_if ⟨rfl, cl_in1 hi hL⟩ (cl_if rfl (cl_ci e1 ?_)))
  refine cd_q246_420 (cl_if ⟨rfl, cl_in1 hi hL⟩ (cl_if rfl (cl_ci e2 ?_)))
  exact cd_q246_427 (cl_if rfl hr)
theorem cl_g430 (hV : cl_V xs D S Y w I J) {i : Nat} (hi : i + 5 ≤ L) (hL : L ≤ 2560) : cl_go L xs i 430 D S Y w I J := by
  obtain ⟨a, D1, S1, Y1, w1, I1, J1, I2, J2, e1, e2, hX, hV2⟩ := cl_run (L := L) (mk := Value.int) (c := fun X => cd_c 105 [.ref 2, .int (X (nI i + 1).toNatClampNeg)]) (r := fun X => cd_c 215 [.ref 100, .int (X (nI i + 1).toNatClampNeg)]) hV (cl_105 hV.1 hV.2.2.1)
  refine ⟨D1, S1, Y1, w1, I2, J2, hV2, fun r hr => ?_⟩
  refine cd_q246_430 (cl_if ⟨rfl, cl_in1 hi hL⟩ (cl_if rfl (cl_ci e1 ?_)))
  refine cd_q246_437 (cl_if ⟨rfl, cl_in1 hi hL⟩ (cl_if rfl (cl_ci e2 ?_)))
  exact cd_q246_444 (cl_if rfl hr)
theorem cl_g447 (hV : cl_V xs D S Y w I J) {i : Nat} (hi : i + 5 ≤ L) (hL : L ≤ 2560) : cl_go L xs i 447 D S Y w I J := by
  obtain ⟨a, D1, S1, Y1, w1, I1, J1, I2, J2, e1, e2, hX, hV2⟩ := cl_run (L := L) (mk := Value.int) (c := fun X => cd_c 112 [.ref 2, .int (X (nI i + 1).toNatClampNeg), .int (X (nI i + 2).toNatClampNeg), .int (X (nI i + 3).toNatClampNeg), .int (X (nI i + 4).toNatClampNeg)]) (r := fun X => cd_c 222 [.ref 100, .int (X (nI i + 1).toNatClampNeg), .int (X (nI i + 2).toNatClampNeg), .int (X (nI i + 3).toNatClampNeg), .int (X (nI i + 4).toNatClampNeg)]) hV (cl_112 hV.1 hV.2.2.1)
  refine ⟨D1, S1, Y1, w1, I2, J2, hV2, fun r hr => ?_⟩
  refine cd_q246_447 (cl_if ⟨rfl, cl_in1 hi hL⟩ (cl_if ⟨rfl, cl_in2 hi hL⟩ (cl_if ⟨rfl, cl_in3 hi hL⟩ (cl_if ⟨rfl, cl_in4 hi hL⟩ (cl_if rfl (cl_ci e1 ?_))))))
  refine cd_q246_469 (cl_if ⟨rfl, cl_in1 hi hL⟩ (cl_if ⟨rfl, cl_in2 hi hL⟩ (cl_if ⟨rfl, cl_in3 hi hL⟩ (cl_if ⟨rfl, cl_in4 hi hL⟩ (cl_if rfl (cl_ci e2 ?_))))))
  exact cd_q246_491 (cl_if rfl hr)
theorem cl_g494 (hV : cl_V xs D S Y w I J) {i : Nat} (hi : i + 5 ≤ L) (hL : L ≤ 2560) : cl_go L xs i 494 D S Y w I J := by
  obtain ⟨a, D1, S1, Y1, w1, I1, J1, I2, J2, e1, e2, hX, hV2⟩ := cl_run (L := L) (mk := Value.int) (c := fun X => cd_c 114 [.ref 2]) (r := fun X => cd_c 223 [.ref 100]) hV (cl_114 hV.1 hV.2.2.1)
  refine ⟨D1, S1, Y1, w1, I2, J2, hV2, fun r hr => ?_⟩
  refine cd_q246_494 (cl_if rfl (cl_ci e1 ?_))
  refine cd_q246_496 (cl_if rfl (cl_ci e2 ?_))
  exact cd_q246_498 (cl_if rfl hr)
theorem cl_g501 (hV : cl_V xs D S Y w I J) {i : Nat} (hi : i + 5 ≤ L) (hL : L ≤ 2560) : cl_go L xs i 501 D S Y w I J := by
  by_cases h0 : I 1 (nI i + 2).toNatClampNeg = 0
  · obtain ⟨a, D1, S1, Y1, w1, I1, J1, I2, J2, e1, e2, hX, hV2⟩ := cl_run (L := L) (mk := Value.int) (c := fun X => cd_c 118 [.ref 2, .int (X (nI i + 1).toNatClampNeg), .int 0, .int (X (nI i + 3).toNatClampNeg)]) (r := fun X => cd_c 228 [.ref 100, .int (X (nI i + 1).toNatClampNeg), .int 0, .int (X (nI i + 3).toNatClampNeg)]) hV (cl_118 (dn := false) hV.1 hV.2.2.1)
    have h1 : I1 1 (nI i + 2).toNatClampNeg = 0 := by rw [hX]; exact h0
    refine ⟨D1, S1, Y1, w1, I2, J2, hV2, fun r hr => ?_⟩
    refine cd_q246_501 (cl_if ⟨rfl, cl_in1 hi hL⟩ (cl_if ⟨rfl, cl_in2 hi hL⟩ (cl_if h0 (cl_if ⟨rfl, cl_in3 hi hL⟩ (cl_if rfl (cl_ci e1 ?_))))))
    refine cd_q246_522 (cl_if ⟨rfl, cl_in1 hi hL⟩ (cl_if ⟨rfl, cl_in2 hi hL⟩ (cl_if h1 (cl_if ⟨rfl, cl_in3 hi hL⟩ (cl_if rfl (cl_ci e2 ?_))))))
    exact cd_q246_543 (cl_if rfl hr)
  · obtain ⟨a, D1, S1, Y1, w1, I1, J1, I2, J2, e1, e2, hX, hV2⟩ := cl_run (L := L) (mk := Value.int) (c := fun X => cd_c 118 [.ref 2, .int (X (nI i + 1).toNatClampNeg), .int 1, .int (X (nI i + 3).toNatClampNeg)]) (r := fun X => cd_c 228 [.ref 100, .int (X (nI i + 1).toNatClampNeg), .int 1, .int (X (nI i + 3).toNatClampNeg)]) hV (cl_118 (dn := true) hV.1 hV.2.2.1)
    have h1 : ¬ I1 1 (nI i + 2).toNatClampNeg = 0 := by rw [hX]; exact h0
    refine ⟨D1, S1, Y1, w1, I2, J2, hV2, fun r hr => ?_⟩
    refine cd_q246_501 (cl_if ⟨rfl, cl_in1 hi hL⟩ (cl_if ⟨rfl, cl_in2 hi hL⟩ (cl_ife h0 (cl_if ⟨rfl, cl_in3 hi hL⟩ (cl_if rfl (cl_ci e1 ?_))))))
    refine cd_q246_522 (cl_if ⟨rfl, cl_in1 hi hL⟩ (cl_if ⟨rfl, cl_in2 hi hL⟩ (cl_ife h1 (cl_if ⟨rfl, cl_in3 hi hL⟩ (cl_if rfl (cl_ci e2 ?_))))))
    exact cd_q246_543 (cl_if rfl hr)
theorem cl_g546 (hV : cl_V xs D S Y w I J) {i : Nat} (hi : i + 5 ≤ L) (hL : L ≤ 2560) : cl_go L xs i 546 D S Y w I J := by
  obtain ⟨a, D1, S1, Y1, w1, I1, J1, I2, J2, e1, e2, hX, hV2⟩ := cl_run (L := L) (mk := Value.int) (c := fun X => cd_c 120 [.ref 2, .int (X (nI i + 1).toNatClampNeg)]) (r := fun X => cd_c 229 [.ref 100, .int (X (nI i + 1).toNatClampNeg)]) hV (cl_120 hV.1 hV.2.2.1)
  refine ⟨D1, S1, Y1, w1, I2, J2, hV2, fun r hr => ?_⟩
  refine cd_q246_546 (cl_if ⟨rfl, cl_in1 hi hL⟩ (cl_if rfl (cl_ci e1 ?_)))
  refine cd_q246_553 (cl_if ⟨rfl, cl_in1 hi hL⟩ (cl_if rfl (cl_ci e2 ?_)))
  exact cd_q246_560 (cl_if rfl hr)
theorem cl_g563 (hV : cl_V xs D S Y w I J) {i : Nat} (hi : i + 5 ≤ L) (hL : L ≤ 2560) : cl_go L xs i 563 D S Y w I J := by
  obtain ⟨a, D1, S1, Y1, w1, I1, J1, I2, J2, e1, e2, hX, hV2⟩ := cl_run (L := L) (mk := Value.int) (c := fun X => cd_c 123 [.ref 2, .int (X (nI i + 1).toNatClampNeg), .int (X (nI i + 2).toNatClampNeg)]) (r := fun X => cd_c 231 [.ref 100, .int (X (nI i + 1).toNatClampNeg), .int (X (nI i + 2).toNatClampNeg)]) hV (cl_123 hV.1 hV.2.2.1)
  refine ⟨D1, S1, Y1, w1, I2, J2, hV2, fun r hr => ?_⟩
  refine cd_q246_563 (cl_if ⟨rfl, cl_in1 hi hL⟩ (cl_if ⟨rfl, cl_in2 hi hL⟩ (cl_if rfl (cl_ci e1 ?_))))
  refine cd_q246_575 (cl_if ⟨rfl, cl_in1 hi hL⟩ (cl_if ⟨rfl, cl_in2 hi hL⟩ (cl_if rfl (cl_ci e2 ?_))))
  exact cd_q246_587 (cl_if rfl hr)
theorem cl_g590 (hV : cl_V xs D S Y w I J) {i : Nat} (hi : i + 5 ≤ L) (hL : L ≤ 2560) : cl_go L xs i 590 D S Y w I J := by
  obtain ⟨a, D1, S1, Y1, w1, I1, J1, I2, J2, e1, e2, hX, hV2⟩ := cl_run (L := L) (mk := Value.int) (c := fun X => cd_c 124 [.ref 2, .int (X (nI i + 1).toNatClampNeg), .int (X (nI i + 2).toNatClampNeg), .int (X (nI i + 3).toNatClampNeg)]) (r := fun X => cd_c 232 [.ref 100, .int (X (nI i + 1).toNatClampNeg), .int (X (nI i + 2).toNatClampNeg), .int (X (nI i + 3).toNatClampNeg)]) hV (cl_124 hV.1 hV.2.2.1)
  refine ⟨D1, S1, Y1, w1, I2, J2, hV2, fun r hr => ?_⟩
  refine cd_q246_590 (cl_if ⟨rfl, cl_in1 hi hL⟩ (cl_if ⟨rfl, cl_in2 hi hL⟩ (cl_if ⟨rfl, cl_in3 hi hL⟩ (cl_if rfl (cl_ci e1 ?_)))))
  refine cd_q246_607 (cl_if ⟨rfl, cl_in1 hi hL⟩ (cl_if ⟨rfl, cl_in2 hi hL⟩ (cl_if ⟨rfl, cl_in3 hi hL⟩ (cl_if rfl (cl_ci e2 ?_)))))
  exact cd_q246_624 (cl_if rfl hr)
theorem cl_g627 (hV : cl_V xs D S Y w I J) {i : Nat} (hi : i + 5 ≤ L) (hL : L ≤ 2560) : cl_go L xs i 627 D S Y w I J := by
  obtain ⟨a, D1, S1, Y1, w1, I1, J1, I2, J2, e1, e2, hX, hV2⟩ := cl_run (L := L) (mk := Value.int) (c := fun X => cd_c 130 [.ref 2, .int (X (nI i + 1).toNatClampNeg)]) (r := fun X => cd_c 236 [.ref 100, .int (X (nI i + 1).toNatClampNeg)]) hV (cl_130 hV.1 hV.2.2.1)
  refine ⟨D1, S1, Y1, w1, I2, J2, hV2, fun r hr => ?_⟩
  refine cd_q246_627 (cl_if ⟨rfl, cl_in1 hi hL⟩ (cl_if rfl (cl_ci e1 ?_)))
  refine cd_q246_634 (cl_if ⟨rfl, cl_in1 hi hL⟩ (cl_if rfl (cl_ci e2 ?_)))
  exact cd_q246_641 (cl_if rfl hr)
theorem cl_g644 (hV : cl_V xs D S Y w I J) {i : Nat} (hi : i + 5 ≤ L) (hL : L ≤ 2560) : cl_go L xs i 644 D S Y w I J := by
  obtain ⟨a, D1, S1, Y1, w1, I1, J1, I2, J2, e1, e2, hX, hV2⟩ := cl_run (L := L) (mk := Value.int) (c := fun X => cd_c 131 [.ref 2, .int (X (nI i + 1).toNatClampNeg)]) (r := fun X => cd_c 240 [.ref 100, .int (X (nI i + 1).toNatClampNeg)]) hV (cl_131 hV.1 hV.2.2.1)
  refine ⟨D1, S1, Y1, w1, I2, J2, hV2, fun r hr => ?_⟩
  refine cd_q246_644 (cl_if ⟨rfl, cl_in1 hi hL⟩ (cl_if rfl (cl_ci e1 ?_)))
  refine cd_q246_651 (cl_if ⟨rfl, cl_in1 hi hL⟩ (cl_if rfl (cl_ci e2 ?_)))
  exact cd_q246_658 (cl_if rfl hr)
theorem cl_g661 (hV : cl_V xs D S Y w I J) {i : Nat} (hi : i + 5 ≤ L) (hL : L ≤ 2560) : cl_go L xs i 661 D S Y w I J := by
  obtain ⟨a, D1, S1, Y1, w1, I1, J1, I2, J2, e1, e2, hX, hV2⟩ := cl_run (L := L) (mk := Value.int) (c := fun X => cd_c 132 [.ref 2, .int (X (nI i + 1).toNatClampNeg)]) (r := fun X => cd_c 241 [.ref 100, .int (X (nI i + 1).toNatClampNeg)]) hV (cl_132 hV.1 hV.2.2.1)
  refine ⟨D1, S1, Y1, w1, I2, J2, hV2, fun r hr => ?_⟩
  refine cd_q246_661 (cl_if ⟨rfl, cl_in1 hi hL⟩ (cl_if rfl (cl_ci e1 ?_)))
  refine cd_q246_668 (cl_if ⟨rfl, cl_in1 hi hL⟩ (cl_if rfl (cl_ci e2 ?_)))
  exact cd_q246_675 (cl_if rfl hr)
theorem cl_g678 (hV : cl_V xs D S Y w I J) {i : Nat} (hi : i + 5 ≤ L) (hL : L ≤ 2560) : cl_go L xs i 678 D S Y w I J := by
  obtain ⟨a, D1, S1, Y1, w1, I1, J1, I2, J2, e1, e2, hX, hV2⟩ := cl_run (L := L) (mk := Value.int) (c := fun X => cd_c 134 [.ref 2, .int (X (nI i + 1).toNatClampNeg), .int (X (nI i + 2).toNatClampNeg)]) (r := fun X => cd_c 243 [.ref 100, .int (X (nI i + 1).toNatClampNeg), .int (X (nI i + 2).toNatClampNeg)]) hV (cl_134 hV.1 hV.2.2.1)
  refine ⟨D1, S1, Y1, w1, I2, J2, hV2, fun r hr => ?_⟩
  refine cd_q246_678 (cl_if ⟨rfl, cl_in1 hi hL⟩ (cl_if ⟨rfl, cl_in2 hi hL⟩ (cl_if rfl (cl_ci e1 ?_))))
  refine cd_q246_690 (cl_if ⟨rfl, cl_in1 hi hL⟩ (cl_if ⟨rfl, cl_in2 hi hL⟩ (cl_if rfl (cl_ci e2 ?_))))
  exact cd_q246_702 (cl_if rfl hr)
theorem cl_g705 (hV : cl_V xs D S Y w I J) {i : Nat} (hi : i + 5 ≤ L) (hL : L ≤ 2560) : cl_go L xs i 705 D S Y w I J := by
  obtain ⟨a, D1, S1, Y1, w1, I1, J1, I2, J2, e1, e2, hX, hV2⟩ := cl_run (L := L) (mk := Value.int) (c := fun X => cd_c 135 [.ref 2, .int (X (nI i + 1).toNatClampNeg)]) (r := fun X => cd_c 244 [.ref 100, .int (X (nI i + 1).toNatClampNeg)]) hV (cl_135 hV.1 hV.2.2.1)
  refine ⟨D1, S1, Y1, w1, I2, J2, hV2, fun r hr => ?_⟩
  refine cd_q246_705 (cl_if ⟨rfl, cl_in1 hi hL⟩ (cl_if rfl (cl_ci e1 ?_)))
  refine cd_q246_712 (cl_if ⟨rfl, cl_in1 hi hL⟩ (cl_if rfl (cl_ci e2 ?_)))
  exact cd_q246_719 (cl_if rfl hr)
theorem cl_g722 (hV : cl_V xs D S Y w I J) {i : Nat} (hi : i + 5 ≤ L) (hL : L ≤ 2560) : cl_go L xs i 722 D S Y w I J := by
  obtain ⟨a, D1, S1, Y1, w1, I1, J1, I2, J2, e1, e2, hX, hV2⟩ := cl_run (L := L) (mk := Value.int) (c := fun X => cd_c 136 [.ref 2, .int (X (nI i + 1).toNatClampNeg)]) (r := fun X => cd_c 245 [.ref 100, .int (X (nI i + 1).toNatClampNeg)]) hV (cl_136 hV.1 hV.2.2.1)
  refine ⟨D1, S1, Y1, w1, I2, J2, hV2, fun r hr => ?_⟩
  refine cd_q246_722 (cl_if ⟨rfl, cl_in1 hi hL⟩ (cl_if rfl (cl_ci e1 ?_)))
  refine cd_q246_729 (cl_if ⟨rfl, cl_in1 hi hL⟩ (cl_if rfl (cl_ci e2 ?_)))
  exact cd_q246_736 (cl_if rfl hr)
theorem cl_turn (hV : cl_V xs D S Y w I J) {i : Nat} (hi : i + 5 ≤ L) (hL : L ≤ 2560) : cl_go L xs i 10 D S Y w I J := by
  have b0 : cd_in (nI i) L = true := cl_in (k := 0) hi hL (by decide)
  have hlt : ¬ Int32.ofNat L - 5 < nI i := fun q => by
    have e : Int32.ofNat L - 5 = nI (L - 5) := pk_sub (b := 5) (by omega)
    rw [e] at q
    have := (nI_ltI (by omega) (by omega)).mp q
    omega
  have dis : ∀ P, cl_go L xs i P D S Y w I J → (∀ r, cd_go 246 P [.ref 1, .ref 2, .ref 100, .int (nI i)] [] (cd_mm L w I J) = some r → cd_go 246 10 [.ref 1, .ref 2, .ref 100, .int (nI i)] [] (cd_mm L w I J) = some r) → cl_go L xs i 10 D S Y w I J := fun P ⟨D1, S1, Y1, w1, I1, J1, h1, h2⟩ g => ⟨D1, S1, Y1, w1, I1, J1, h1, fun r hr => g r (h2 r hr)⟩
  by_cases h0 : I 1 (nI i).toNatClampNeg &&& 31 = 0
  · exact dis 22 (cl_g22 hV hi hL) (fun r hr => cd_q246_10 (cl_if rfl (cl_ife hlt (cl_if ⟨rfl, b0⟩ (cl_if h0 hr)))))
  by_cases h1 : I 1 (nI i).toNatClampNeg &&& 31 = 1
  · exact dis 73 (cl_g73 hV hi hL) (fun r hr => cd_q246_10 (cl_if rfl (cl_ife hlt (cl_if ⟨rfl, b0⟩ (cl_ife h0 (cl_if h1 hr))))))
  by_cases h2 : I 1 (nI i).toNatClampNeg &&& 31 = 2
  · exact dis 80 (cl_g80 hV hi hL) (fun r hr => cd_q246_10 (cl_if rfl (cl_ife hlt (cl_if ⟨rfl, b0⟩ (cl_ife h0 (cl_ife h1 (cl_if h2 hr)))))))
  by_cases h3 : I 1 (nI i).toNatClampNeg &&& 31 = 3
  · exact dis 87 (cl_g87 hV hi hL) (fun r hr => cd_q246_10 (cl_if rfl (cl_ife hlt (cl_if ⟨rfl, b0⟩ (cl_ife h0 (cl_ife h1 (cl_ife h2 (cl_if h3 hr))))))))
  by_cases h4 : I 1 (nI i).toNatClampNeg &&& 31 = 4
  · exact dis 94 (cl_g94 hV hi hL) (fun r hr => cd_q246_10 (cl_if rfl (cl_ife hlt (cl_if ⟨rfl, b0⟩ (cl_ife h0 (cl_ife h1 (cl_ife h2 (cl_ife h3 (cl_if h4 hr)))))))))
  by_cases h5 : I 1 (nI i).toNatClampNeg &&& 31 = 5
  · exact dis 111 (cl_g111 hV hi hL) (fun r hr => cd_q246_10 (cl_if rfl (cl_ife hlt (cl_if ⟨rfl, b0⟩ (cl_ife h0 (cl_ife h1 (cl_ife h2 (cl_ife h3 (cl_ife h4 (cl_if h5 hr))))))))))
  by_cases h6 : I 1 (nI i).toNatClampNeg &&& 31 = 6
  · exact dis 138 (cl_g138 hV hi hL) (fun r hr => cd_q246_10 (cl_if rfl (cl_ife hlt (cl_if ⟨rfl, b0⟩ (cl_ife h0 (cl_ife h1 (cl_ife h2 (cl_ife h3 (cl_ife h4 (cl_ife h5 (cl_if h6 hr)))))))))))
  by_cases h7 : I 1 (nI i).toNatClampNeg &&& 31 = 7
  · exact dis 165 (cl_g165 hV hi hL) (fun r hr => cd_q246_10 (cl_if rfl (cl_ife hlt (cl_if ⟨rfl, b0⟩ (cl_ife h0 (cl_ife h1 (cl_ife h2 (cl_ife h3 (cl_ife h4 (cl_ife h5 (cl_ife h6 (cl_if h7 hr))))))))))))
  by_cases h8 : I 1 (nI i).toNatClampNeg &&& 31 = 8
  · exact dis 192 (cl_g192 hV hi hL) (fun r hr => cd_q246_10 (cl_if rfl (cl_ife hlt (cl_if ⟨rfl, b0⟩ (cl_ife h0 (cl_ife h1 (cl_ife h2 (cl_ife h3 (cl_ife h4 (cl_ife h5 (cl_ife h6 (cl_ife h7 (cl_if h8 hr)))))))))))))
  by_cases h9 : I 1 (nI i).toNatClampNeg &&& 31 = 9
  · exact dis 219 (cl_g219 hV hi hL) (fun r hr => cd_q246_10 (cl_if rfl (cl_ife hlt (cl_if ⟨rfl, b0⟩ (cl_ife h0 (cl_ife h1 (cl_ife h2 (cl_ife h3 (cl_ife h4 (cl_ife h5 (cl_ife h6 (cl_ife h7 (cl_ife h8 (cl_if h9 hr))))))))))))))
  by_cases h10 : I 1 (nI i).toNatClampNeg &&& 31 = 10
  · exact dis 236 (cl_g236 hV hi hL) (fun r hr => cd_q246_10 (cl_if rfl (cl_ife hlt (cl_if ⟨rfl, b0⟩ (cl_ife h0 (cl_ife h1 (cl_ife h2 (cl_ife h3 (cl_ife h4 (cl_ife h5 (cl_ife h6 (cl_ife h7 (cl_ife h8 (cl_ife h9 (cl_if h10 hr)))))))))))))))
  by_cases h11 : I 1 (nI i).toNatClampNeg &&& 31 = 11
  · exact dis 263 (cl_g263 hV hi hL) (fun r hr => cd_q246_10 (cl_if rfl (cl_ife hlt (cl_if ⟨rfl, b0⟩ (cl_ife h0 (cl_ife h1 (cl_ife h2 (cl_ife h3 (cl_ife h4 (cl_ife h5 (cl_ife h6 (cl_ife h7 (cl_ife h8 (cl_ife h9 (cl_ife h10 (cl_if h11 hr))))))))))))))))
  by_cases h12 : I 1 (nI i).toNatClampNeg &&& 31 = 12
  · exact dis 290 (cl_g290 hV hi hL) (fun r hr => cd_q246_10 (cl_if rfl (cl_ife hlt (cl_if ⟨rfl, b0⟩ (cl_ife h0 (cl_ife h1 (cl_ife h2 (cl_ife h3 (cl_ife h4 (cl_ife h5 (cl_ife h6 (cl_ife h7 (cl_ife h8 (cl_ife h9 (cl_ife h10 (cl_ife h11 (cl_if h12 hr)))))))))))))))))
  by_cases h13 : I 1 (nI i).toNatClampNeg &&& 31 = 13
  · exact dis 317 (cl_g317 hV hi hL) (fun r hr => cd_q246_10 (cl_if rfl (cl_ife hlt (cl_if ⟨rfl, b0⟩ (cl_ife h0 (cl_ife h1 (cl_ife h2 (cl_ife h3 (cl_ife h4 (cl_ife h5 (cl_ife h6 (cl_ife h7 (cl_ife h8 (cl_ife h9 (cl_ife h10 (cl_ife h11 (cl_ife h12 (cl_if h13 hr))))))))))))))))))
  by_cases h14 : I 1 (nI i).toNatClampNeg &&& 31 = 14
  · exact dis 324 (cl_g324 hV hi hL) (fun r hr => cd_q246_10 (cl_if rfl (cl_ife hlt (cl_if ⟨rfl, b0⟩ (cl_ife h0 (cl_ife h1 (cl_ife h2 (cl_ife h3 (cl_ife h4 (cl_ife h5 (cl_ife h6 (cl_ife h7 (cl_ife h8 (cl_ife h9 (cl_ife h10 (cl_ife h11 (cl_ife h12 (cl_ife h13 (cl_if h14 hr)))))))))))))))))))
  by_cases h15 : I 1 (nI i).toNatClampNeg &&& 31 = 15
  · exact dis 351 (cl_g351 hV hi hL) (fun r hr => cd_q246_10 (cl_if rfl (cl_ife hlt (cl_if ⟨rfl, b0⟩ (cl_ife h0 (cl_ife h1 (cl_ife h2 (cl_ife h3 (cl_ife h4 (cl_ife h5 (cl_ife h6 (cl_ife h7 (cl_ife h8 (cl_ife h9 (cl_ife h10 (cl_ife h11 (cl_ife h12 (cl_ife h13 (cl_ife h14 (cl_if h15 hr))))))))))))))))))))
  by_cases h16 : I 1 (nI i).toNatClampNeg &&& 31 = 16
  · exact dis 368 (cl_g368 hV hi hL) (fun r hr => cd_q246_10 (cl_if rfl (cl_ife hlt (cl_if ⟨rfl, b0⟩ (cl_ife h0 (cl_ife h1 (cl_ife h2 (cl_ife h3 (cl_ife h4 (cl_ife h5 (cl_ife h6 (cl_ife h7 (cl_ife h8 (cl_ife h9 (cl_ife h10 (cl_ife h11 (cl_ife h12 (cl_ife h13 (cl_ife h14 (cl_ife h15 (cl_if h16 hr)))))))))))))))))))))
  by_cases h17 : I 1 (nI i).toNatClampNeg &&& 31 = 17
  · exact dis 395 (cl_g395 hV hi hL) (fun r hr => cd_q246_10 (cl_if rfl (cl_ife hlt (cl_if ⟨rfl, b0⟩ (cl_ife h0 (cl_ife h1 (cl_ife h2 (cl_ife h3 (cl_ife h4 (cl_ife h5 (cl_ife h6 (cl_ife h7 (cl_ife h8 (cl_ife h9 (cl_ife h10 (cl_ife h11 (cl_ife h12 (cl_ife h13 (cl_ife h14 (cl_ife h15 (cl_ife h16 (cl_if h17 hr))))))))))))))))))))))
  by_cases h18 : I 1 (nI i).toNatClampNeg &&& 31 = 18
  · exact dis 413 (cl_g413 hV hi hL) (fun r hr => cd_q246_10 (cl_if rfl (cl_ife hlt (cl_if ⟨rfl, b0⟩ (cl_ife h0 (cl_ife h1 (cl_ife h2 (cl_ife h3 (cl_ife h4 (cl_ife h5 (cl_ife h6 (cl_ife h7 (cl_ife h8 (cl_ife h9 (cl_ife h10 (cl_ife h11 (cl_ife h12 (cl_ife h13 (cl_ife h14 (cl_ife h15 (cl_ife h16 (cl_ife h17 (cl_if h18 hr)))))))))))))))))))))))
  by_cases h19 : I 1 (nI i).toNatClampNeg &&& 31 = 19
  · exact dis 430 (cl_g430 hV hi hL) (fun r hr => cd_q246_10 (cl_if rfl (cl_ife hlt (cl_if ⟨rfl, b0⟩ (cl_ife h0 (cl_ife h1 (cl_ife h2 (cl_ife h3 (cl_ife h4 (cl_ife h5 (cl_ife h6 (cl_ife h7 (cl_ife h8 (cl_ife h9 (cl_ife h10 (cl_ife h11 (cl_ife h12 (cl_ife h13 (cl_ife h14 (cl_ife h15 (cl_ife h16 (cl_ife h17 (cl_ife h18 (cl_if h19 hr))))))))))))))))))))))))
  by_cases h20 : I 1 (nI i).toNatClampNeg &&& 31 = 20
  · exact dis 447 (cl_g447 hV hi hL) (fun r hr => cd_q246_10 (cl_if rfl (cl_ife hlt (cl_if ⟨rfl, b0⟩ (cl_ife h0 (cl_ife h1 (cl_ife h2 (cl_ife h3 (cl_ife h4 (cl_ife h5 (cl_ife h6 (cl_ife h7 (cl_ife h8 (cl_ife h9 (cl_ife h10 (cl_ife h11 (cl_ife h12 (cl_ife h13 (cl_ife h14 (cl_ife h15 (cl_ife h16 (cl_ife h17 (cl_ife h18 (cl_ife h19 (cl_if h20 hr)))))))))))))))))))))))))
  by_cases h21 : I 1 (nI i).toNatClampNeg &&& 31 = 21
  · exact dis 494 (cl_g494 hV hi hL) (fun r hr => cd_q246_10 (cl_if rfl (cl_ife hlt (cl_if ⟨rfl, b0⟩ (cl_ife h0 (cl_ife h1 (cl_ife h2 (cl_ife h3 (cl_ife h4 (cl_ife h5 (cl_ife h6 (cl_ife h7 (cl_ife h8 (cl_ife h9 (cl_ife h10 (cl_ife h11 (cl_ife h12 (cl_ife h13 (cl_ife h14 (cl_ife h15 (cl_ife h16 (cl_ife h17 (cl_ife h18 (cl_ife h19 (cl_ife h20 (cl_if h21 hr))))))))))))))))))))))))))
  by_cases h22 : I 1 (nI i).toNatClampNeg &&& 31 = 22
  · exact dis 501 (cl_g501 hV hi hL) (fun r hr => cd_q246_10 (cl_if rfl (cl_ife hlt (cl_if ⟨rfl, b0⟩ (cl_ife h0 (cl_ife h1 (cl_ife h2 (cl_ife h3 (cl_ife h4 (cl_ife h5 (cl_ife h6 (cl_ife h7 (cl_ife h8 (cl_ife h9 (cl_ife h10 (cl_ife h11 (cl_ife h12 (cl_ife h13 (cl_ife h14 (cl_ife h15 (cl_ife h16 (cl_ife h17 (cl_ife h18 (cl_ife h19 (cl_ife h20 (cl_ife h21 (cl_if h22 hr)))))))))))))))))))))))))))
  by_cases h23 : I 1 (nI i).toNatClampNeg &&& 31 = 23
  · exact dis 546 (cl_g546 hV hi hL) (fun r hr => cd_q246_10 (cl_if rfl (cl_ife hlt (cl_if ⟨rfl, b0⟩ (cl_ife h0 (cl_ife h1 (cl_ife h2 (cl_ife h3 (cl_ife h4 (cl_ife h5 (cl_ife h6 (cl_ife h7 (cl_ife h8 (cl_ife h9 (cl_ife h10 (cl_ife h11 (cl_ife h12 (cl_ife h13 (cl_ife h14 (cl_ife h15 (cl_ife h16 (cl_ife h17 (cl_ife h18 (cl_ife h19 (cl_ife h20 (cl_ife h21 (cl_ife h22 (cl_if h23 hr))))))))))))))))))))))))))))
  by_cases h24 : I 1 (nI i).toNatClampNeg &&& 31 = 24
  · exact dis 563 (cl_g563 hV hi hL) (fun r hr => cd_q246_10 (cl_if rfl (cl_ife hlt (cl_if ⟨rfl, b0⟩ (cl_ife h0 (cl_ife h1 (cl_ife h2 (cl_ife h3 (cl_ife h4 (cl_ife h5 (cl_ife h6 (cl_ife h7 (cl_ife h8 (cl_ife h9 (cl_ife h10 (cl_ife h11 (cl_ife h12 (cl_ife h13 (cl_ife h14 (cl_ife h15 (cl_ife h16 (cl_ife h17 (cl_ife h18 (cl_ife h19 (cl_ife h20 (cl_ife h21 (cl_ife h22 (cl_ife h23 (cl_if h24 hr)))))))))))))))))))))))))))))
  by_cases h25 : I 1 (nI i).toNatClampNeg &&& 31 = 25
  · exact dis 590 (cl_g590 hV hi hL) (fun r hr => cd_q246_10 (cl_if rfl (cl_ife hlt (cl_if ⟨rfl, b0⟩ (cl_ife h0 (cl_ife h1 (cl_ife h2 (cl_ife h3 (cl_ife h4 (cl_ife h5 (cl_ife h6 (cl_ife h7 (cl_ife h8 (cl_ife h9 (cl_ife h10 (cl_ife h11 (cl_ife h12 (cl_ife h13 (cl_ife h14 (cl_ife h15 (cl_ife h16 (cl_ife h17 (cl_ife h18 (cl_ife h19 (cl_ife h20 (cl_ife h21 (cl_ife h22 (cl_ife h23 (cl_ife h24 (cl_if h25 hr))))))))))))))))))))))))))))))
  by_cases h26 : I 1 (nI i).toNatClampNeg &&& 31 = 26
  · exact dis 627 (cl_g627 hV hi hL) (fun r hr => cd_q246_10 (cl_if rfl (cl_ife hlt (cl_if ⟨rfl, b0⟩ (cl_ife h0 (cl_ife h1 (cl_ife h2 (cl_ife h3 (cl_ife h4 (cl_ife h5 (cl_ife h6 (cl_ife h7 (cl_ife h8 (cl_ife h9 (cl_ife h10 (cl_ife h11 (cl_ife h12 (cl_ife h13 (cl_ife h14 (cl_ife h15 (cl_ife h16 (cl_ife h17 (cl_ife h18 (cl_ife h19 (cl_ife h20 (cl_ife h21 (cl_ife h22 (cl_ife h23 (cl_ife h24 (cl_ife h25 (cl_if h26 hr)))))))))))))))))))))))))))))))
  by_cases h27 : I 1 (nI i).toNatClampNeg &&& 31 = 27
  · exact dis 644 (cl_g644 hV hi hL) (fun r hr => cd_q246_10 (cl_if rfl (cl_ife hlt (cl_if ⟨rfl, b0⟩ (cl_ife h0 (cl_ife h1 (cl_ife h2 (cl_ife h3 (cl_ife h4 (cl_ife h5 (cl_ife h6 (cl_ife h7 (cl_ife h8 (cl_ife h9 (cl_ife h10 (cl_ife h11 (cl_ife h12 (cl_ife h13 (cl_ife h14 (cl_ife h15 (cl_ife h16 (cl_ife h17 (cl_ife h18 (cl_ife h19 (cl_ife h20 (cl_ife h21 (cl_ife h22 (cl_ife h23 (cl_ife h24 (cl_ife h25 (cl_ife h26 (cl_if h27 hr))))))))))))))))))))))))))))))))
  by_cases h28 : I 1 (nI i).toNatClampNeg &&& 31 = 28
  · exact dis 661 (cl_g661 hV hi hL) (fun r hr => cd_q246_10 (cl_if rfl (cl_ife hlt (cl_if ⟨rfl, b0⟩ (cl_ife h0 (cl_ife h1 (cl_ife h2 (cl_ife h3 (cl_ife h4 (cl_ife h5 (cl_ife h6 (cl_ife h7 (cl_ife h8 (cl_ife h9 (cl_ife h10 (cl_ife h11 (cl_ife h12 (cl_ife h13 (cl_ife h14 (cl_ife h15 (cl_ife h16 (cl_ife h17 (cl_ife h18 (cl_ife h19 (cl_ife h20 (cl_ife h21 (cl_ife h22 (cl_ife h23 (cl_ife h24 (cl_ife h25 (cl_ife h26 (cl_ife h27 (cl_if h28 hr)))))))))))))))))))))))))))))))))
  by_cases h29 : I 1 (nI i).toNatClampNeg &&& 31 = 29
  · exact dis 678 (cl_g678 hV hi hL) (fun r hr => cd_q246_10 (cl_if rfl (cl_ife hlt (cl_if ⟨rfl, b0⟩ (cl_ife h0 (cl_ife h1 (cl_ife h2 (cl_ife h3 (cl_ife h4 (cl_ife h5 (cl_ife h6 (cl_ife h7 (cl_ife h8 (cl_ife h9 (cl_ife h10 (cl_ife h11 (cl_ife h12 (cl_ife h13 (cl_ife h14 (cl_ife h15 (cl_ife h16 (cl_ife h17 (cl_ife h18 (cl_ife h19 (cl_ife h20 (cl_ife h21 (cl_ife h22 (cl_ife h23 (cl_ife h24 (cl_ife h25 (cl_ife h26 (cl_ife h27 (cl_ife h28 (cl_if h29 hr))))))))))))))))))))))))))))))))))
  by_cases h30 : I 1 (nI i).toNatClampNeg &&& 31 = 30
  · exact dis 705 (cl_g705 hV hi hL) (fun r hr => cd_q246_10 (cl_if rfl (cl_ife hlt (cl_if ⟨rfl, b0⟩ (cl_ife h0 (cl_ife h1 (cl_ife h2 (cl_ife h3 (cl_ife h4 (cl_ife h5 (cl_ife h6 (cl_ife h7 (cl_ife h8 (cl_ife h9 (cl_ife h10 (cl_ife h11 (cl_ife h12 (cl_ife h13 (cl_ife h14 (cl_ife h15 (cl_ife h16 (cl_ife h17 (cl_ife h18 (cl_ife h19 (cl_ife h20 (cl_ife h21 (cl_ife h22 (cl_ife h23 (cl_ife h24 (cl_ife h25 (cl_ife h26 (cl_ife h27 (cl_ife h28 (cl_ife h29 (cl_if h30 hr)))))))))))))))))))))))))))))))))))
  by_cases h31 : I 1 (nI i).toNatClampNeg &&& 31 = 31
  · exact dis 722 (cl_g722 hV hi hL) (fun r hr => cd_q246_10 (cl_if rfl (cl_ife hlt (cl_if ⟨rfl, b0⟩ (cl_ife h0 (cl_ife h1 (cl_ife h2 (cl_ife h3 (cl_ife h4 (cl_ife h5 (cl_ife h6 (cl_ife h7 (cl_ife h8 (cl_ife h9 (cl_ife h10 (cl_ife h11 (cl_ife h12 (cl_ife h13 (cl_ife h14 (cl_ife h15 (cl_ife h16 (cl_ife h17 (cl_ife h18 (cl_ife h19 (cl_ife h20 (cl_ife h21 (cl_ife h22 (cl_ife h23 (cl_ife h24 (cl_ife h25 (cl_ife h26 (cl_ife h27 (cl_ife h28 (cl_ife h29 (cl_ife h30 (cl_if h31 hr))))))))))))))))))))))))))))))))))))
  exact ⟨D, S, Y, w, I, J, hV, fun r hr => cd_q246_10 (cl_if rfl (cl_ife hlt (cl_if ⟨rfl, b0⟩ (cl_ife h0 (cl_ife h1 (cl_ife h2 (cl_ife h3 (cl_ife h4 (cl_ife h5 (cl_ife h6 (cl_ife h7 (cl_ife h8 (cl_ife h9 (cl_ife h10 (cl_ife h11 (cl_ife h12 (cl_ife h13 (cl_ife h14 (cl_ife h15 (cl_ife h16 (cl_ife h17 (cl_ife h18 (cl_ife h19 (cl_ife h20 (cl_ife h21 (cl_ife h22 (cl_ife h23 (cl_ife h24 (cl_ife h25 (cl_ife h26 (cl_ife h27 (cl_ife h28 (cl_ife h29 (cl_ife h30 (cl_ife h31 hr)))))))))))))))))))))))))))))))))))⟩
theorem cl_loop (hL : L ≤ 2560) : ∀ (m i : Nat) (D : cd_D) (S : cd_S) (Y : ce_Y) (w : Bool) (I : Nat → Nat → Int32) (J : Nat → Nat → Int64), L ≤ i + m → i ≤ 2600 → cl_V xs D S Y w I J → ∃ (w1 : Bool) (I1 : Nat → Nat → Int32) (J1 : Nat → Nat → Int64), cd_go 246 10 [.ref 1, .ref 2, .ref 100, .int (nI i)] [] (cd_mm L w I J) = some (some (.int 1), cd_mm L w1 I1 J1) := by
  intro m
  induction m using Nat.strongRecOn with
  | _ m ih =>
    intro i D S Y w I J hm hi hV
    by_cases h : i + 5 ≤ L
    · obtain ⟨D1, S1, Y1, w1, I1, J1, hV1, g⟩ := cl_turn hV h hL
      obtain ⟨w2, I2, J2, e⟩ := ih (m - 5) (by omega) (i + 5) D1 S1 Y1 w1 I1 J1 (by omega) (by omega) hV1
      refine ⟨w2, I2, J2, g _ (cd_q246_739 ?_)⟩
      rw [show nI i + 5 = nI (i + 5) from nI_add i 5]
      exact e
    · refine ⟨w, I, J, cd_q246_10 (cl_if rfl (cl_if ?_ rfl))⟩
      show Int32.ofNat L - 5 < nI i
      rw [show Int32.ofNat L - 5 = zI ((L : Int) - 5) from cw_sub2 L 5, cw_ltZN (by omega) (by omega) (by omega)]
      omega
/-- nothing told yet -/
def ce_Y0 : ce_Y := (fun _ => 0, 0, -1, 0, fun _ _ => 0, [], fun _ => false, fun _ _ _ => 0)
theorem cl_V0 : cl_V xs ce_D0 (ce_S0 0) ce_Y0 false (cd_I0 xs) (fun _ _ => 0) := by
  have hO := ce_okP0 (r := 0) (by decide)
  have z : ∀ {P : Nat → Prop} (t : Nat), t < 0 → P t := fun t ht => absurd ht (Nat.not_lt_zero t)
  refine ⟨⟨hO.1, hO.2.1, ⟨by decide, by decide, by decide, by decide, by decide⟩, fun j => (by decide : (0 : Nat) < 256), fun i hi => absurd hi (Nat.not_lt_zero i), fun j hj => absurd hj (Nat.not_lt_zero j), fun i _ hb => by cases hb⟩, ⟨⟨⟨rfl, rfl, rfl, rfl, rfl⟩, fun t ht => absurd ht (Nat.not_lt_zero t), fun t ht => absurd ht (Nat.not_lt_zero t), fun t ht => absurd ht (Nat.not_lt_zero t)⟩, ⟨fun t ht => absurd ht (Nat.not_lt_zero t), fun t ht => absurd ht (Nat.not_lt_zero t)⟩, rfl, rfl, ⟨⟨rfl, rfl, rfl, rfl⟩, fun t ht => absurd ht (Nat.not_lt_zero t), fun t ht => absurd ht (Nat.not_lt_zero t), fun t ht => absurd ht (Nat.not_lt_zero t), fun i hi => ⟨?_, fun hb => by cases hb⟩⟩⟩, ⟨⟨⟨⟨rfl, rfl, rfl, rfl, rfl⟩, fun t ht => absurd ht (Nat.not_lt_zero t), fun t ht => absurd ht (Nat.not_lt_zero t), fun t ht => absurd ht (Nat.not_lt_zero t)⟩, ⟨⟨rfl, rfl⟩, fun t ht => absurd ht (Nat.not_lt_zero t), fun t ht => absurd ht (Nat.not_lt_zero t)⟩, rfl, ⟨⟨rfl, rfl, rfl⟩, fun t ht => absurd ht (Nat.not_lt_zero t), fun t ht => absurd ht (Nat.not_lt_zero t), ⟨rfl, fun t ht => absurd ht (Nat.not_lt_zero t)⟩, fun i hi => ⟨?_, fun hb => by cases hb⟩⟩, Or.inl rfl⟩, fun k hk => Or.inl ?_⟩, ?_⟩
  · rfl
  · rfl
  · exact (show cd_I0 xs 8 k = if k < 256 then -1 else cd_V1 xs 8 k from rfl).trans (if_pos hk)
  · rfl
/-- the law's loop answers 1 -/
theorem cd_loop : cd_Loop := fun L xs hL => cl_loop hL L 0 ce_D0 (ce_S0 0) ce_Y0 false (cd_I0 xs) (fun _ _ => 0) (by omega) (by decide) cl_V0
theorem cd_law : cd_Law := cd_law_of cd_loop
end CLB
