/-! ===== the class: its picture, leaves ===== -/
/-- plan p holds a den -/
def cf_P (D : cd_D) (p : Nat) (I : Nat → Nat → Int32) (J : Nat → Nat → Int64) : Prop := (I p 0 = nI (D 0 0) ∧ I p 1 = nI (D 0 1) ∧ I p 2 = nI (D 0 2) ∧ I p 16 = nI (D 0 16) ∧ I p 17 = nI (D 0 17)) ∧ (∀ t, t < D 0 0 → I (p + 1) t = nI (D 1 t) ∧ I (p + 2) t = nI (D 2 t) ∧ I (p + 3) t = nI (D 3 t) ∧ I (p + 4) t = nI (D 4 t)) ∧ (∀ k, k < D 0 1 → I (p + 5) k = nI (D 5 k) ∧ I (p + 6) k = nI (D 6 k) ∧ I (p + 7) k = nI (D 7 k) ∧ I (p + 8) k = nI (D 8 k) ∧ I (p + 9) k = nI (D 9 k) ∧ J (p + 10) k = lN (ce_msk (cd_und D k) 64)) ∧ ∀ k, k < D 0 2 → I (p + 11) k = nI (D 11 k) ∧ I (p + 12) k = nI (D 12 k)
/-- state s holds one -/
def cf_S (D : cd_D) (S : cd_S) (s : Nat) (I : Nat → Nat → Int32) : Prop := (I s 1 = nI (S 0 1) ∧ I s 2 = nI (S 0 2)) ∧ (∀ t, t < D 0 0 → I (s + 1) t = nI (S 1 t)) ∧ ∀ k, k < D 0 2 → I (s + 2) k = nI (S 2 k) ∧ I (s + 3) k = nI (S 3 k)
theorem cf_P.of {D : cd_D} {p : Nat} {I I1 : Nat → Nat → Int32} {J J1 : Nat → Nat → Int64} (h : cf_P D p I J) (g : ∀ a k, p ≤ a → a ≤ p + 12 → I1 a k = I a k) (gJ : ∀ k, J1 (p + 10) k = J (p + 10) k) : cf_P D p I1 J1 := by
  obtain ⟨⟨a1, a2, a3, a4, a5⟩, b, c, d⟩ := h
  have g' : ∀ i, i ≤ 12 → ∀ k, I1 (p + i) k = I (p + i) k := fun i hi k => g (p + i) k (by omega) (by omega)
  have g0 : ∀ k, I1 p k = I p k := fun k => g p k (by omega) (by omega)
  refine ⟨⟨(g0 _).trans a1, (g0 _).trans a2, (g0 _).trans a3, (g0 _).trans a4, (g0 _).trans a5⟩, fun t ht => ?_, fun k hk => ?_, fun k hk => ?_⟩
  · rw [g' 1 (by decide), g' 2 (by decide), g' 3 (by decide), g' 4 (by decide)]; exact b t ht
  · rw [g' 5 (by decide), g' 6 (by decide), g' 7 (by decide), g' 8 (by decide), g' 9 (by decide), gJ]; exact c k hk
  · rw [g' 11 (by decide), g' 12 (by decide)]; exact d k hk
theorem cf_S.of {D : cd_D} {S : cd_S} {s : Nat} {I I1 : Nat → Nat → Int32} (h : cf_S D S s I) (g : ∀ a k, s ≤ a → a ≤ s + 3 → I1 a k = I a k) : cf_S D S s I1 := by
  obtain ⟨⟨a1, a2⟩, b, c⟩ := h
  have g' : ∀ i, i ≤ 3 → ∀ k, I1 (s + i) k = I (s + i) k := fun i hi k => g (s + i) k (by omega) (by omega)
  have g0 : ∀ k, I1 s k = I s k := fun k => g s k (by omega) (by omega)
  refine ⟨⟨(g0 _).trans a1, (g0 _).trans a2⟩, fun t ht => (g' 1 (by decide) t).trans (b t ht), fun k hk => ?_⟩
  rw [g' 2 (by decide), g' 3 (by decide)]; exact c k hk
/-- is a bit of a long set? -/
theorem cf_bitL {m k : Nat} (hm : m < 2 ^ 64) (hk : k < 64) : (lg_cmp ((((lN m).toUInt64 >>> ((nI k).toInt64.toUInt64 &&& Int64.toUInt64 63)).toInt64) &&& 1) 0 = 0) ↔ m.testBit k = false := by
  rw [wb_bit hm hk, lg_cmp_eq, show (0 : Int64) = lN 0 from rfl, ce_lNeq (by omega) (by decide), Nat.testBit_eq_decide_div_mod_eq, decide_eq_false_iff_not]
  generalize m / 2 ^ k = z
  omega
theorem cf_und_lt (f : Nat → Bool) : ce_msk f 64 < 2 ^ 64 := ce_msk_lt f 64
theorem cf_und_tb {f : Nat → Bool} {c : Nat} (hc : c < 64) : (ce_msk f 64).testBit c = f c := by rw [ce_msk_tb, decide_eq_true hc, Bool.true_and]
/-- masks joined -/
theorem cf_or {f g h : Nat → Bool} (e : ∀ c, c < 64 → h c = (f c || g c)) : lN (ce_msk f 64) ||| lN (ce_msk g 64) = lN (ce_msk h 64) := by
  rw [wb_or (cf_und_lt f) (cf_und_lt g)]
  congr 1
  apply Nat.eq_of_testBit_eq
  intro i
  rw [Nat.testBit_or, ce_msk_tb, ce_msk_tb, ce_msk_tb]
  by_cases hi : i < 64
  · rw [e i hi, decide_eq_true hi]; rfl
  · rw [decide_eq_false hi]; rfl
theorem cf_or1 {f h : Nat → Bool} {d : Nat} (hd : d < 64) (e : ∀ c, c < 64 → h c = (f c || decide (d = c))) : lN (ce_msk f 64) ||| ((1 : Int64) <<< ((nI d).toInt64 &&& 63)) = lN (ce_msk h 64) := by
  rw [cw_orl hd (cf_und_lt f)]
  congr 1
  apply Nat.eq_of_testBit_eq
  intro i
  rw [Nat.testBit_or, ce_msk_tb, ce_msk_tb, Nat.testBit_two_pow]
  by_cases hi : i < 64
  · rw [e i hi, decide_eq_true hi]; rfl
  · rw [decide_eq_false hi, decide_eq_false (show ¬ d = i by omega)]; rfl
theorem cf_msk0 : lN (ce_msk (fun _ => false) 64) = 0 := by decide
section CFQ
variable {L : Nat} {w : Bool} {I : Nat → Nat → Int32} {J : Nat → Nat → Int64} {D : cd_D} {S : cd_S}
variable {p s z : Nat}
theorem cp_29 (hp : p = 66 ∨ p = 83) (hP : cf_P D p I J) (hd : D 0 1 ≤ 3) {k c : Nat} (hk : k < D 0 1) (hc : c < 64) : cd_c 29 [.ref p, .int (nI k), .int (nI c)] (cd_mm L w I J) = some (some (.int (cd_tf (cd_und D k c))), cd_mm L w I J) := by
  refine cd_c_of (l := [.ref p, .int (nI k), .int (nI c)]) (by rcases hp with rfl | rfl <;> rfl) (by rcases hp with rfl | rfl <;> rfl) (cd_s29_0 hp ?_)
  have := cf_bitL (cf_und_lt (cd_und D k)) hc
  rw [cf_und_tb hc] at this
  rw [if_pos (cd_inN (by omega) (by decide)), nI_clamp (by omega), (hP.2.2.1 k hk).2.2.2.2.2]
  cases hu : cd_und D k c with
  | false => rw [if_pos (this.mpr hu)]; rfl
  | true => rw [if_neg (fun q => by rw [this.mp q] at hu; cases hu)]; rfl
theorem cp_30 (hp : p = 66 ∨ p = 83) (hs : s = 22 ∨ s = 45 ∨ s = 79 ∨ s = 96) (hP : cf_P D p I J) (hD : cd_okD D) (hS : ∀ t, t < D 0 0 → I (s + 1) t = nI (S 1 t)) (h64 : ∀ t, t < D 0 0 → S 1 t < 64) {k : Nat} (hk : k < D 0 2) : cd_c 30 [.ref p, .ref s, .int (nI k)] (cd_mm L w I J) = some (some (.int (cd_tf (cd_und D (D 11 k) (S 1 (D 12 k))))), cd_mm L w I J) := by
  have h12 := hD.1.2.2.1
  have h8 := hD.1.1
  obtain ⟨d11, d12⟩ := hD.2.2.2 k hk
  obtain ⟨r11, r12⟩ := hP.2.2.2 k hk
  refine cd_c_of (l := [.ref p, .ref s, .int (nI k)]) (by rcases hp with rfl | rfl <;> rcases hs with rfl | rfl | rfl | rfl <;> rfl) (by rcases hp with rfl | rfl <;> rcases hs with rfl | rfl | rfl | rfl <;> rfl) (cd_s30_0 hp hs ?_)
  rw [if_pos (cd_inN (by omega) (by decide)), if_pos (cd_inN (by omega) (by decide)), nI_clamp (by omega), r11, r12, if_pos (cd_inN (by omega) (by decide)), nI_clamp (by omega), hS _ d12]
  refine cd_ci_s.mpr ⟨_, _, cp_29 hp hP hD.1.2.1 d11 (h64 _ d12), cd_s30_13 hp hs ?_⟩
  rw [if_pos (cd_tf_and _)]
theorem cp_59 (hs : s = 22 ∨ s = 45) {h k : Nat} (hh : I s 2 = nI h) (hb : h < 65536) (hk : k < 16) : cd_c 59 [.ref s, .int (nI k)] (cd_mm L w I J) = some (some (.int (cd_tf (h.testBit k))), cd_mm L w I J) := by
  refine cd_c_of (l := [.ref s, .int (nI k)]) (by rcases hs with rfl | rfl <;> rfl) (by rcases hs with rfl | rfl <;> rfl) (cd_s59_0 hs ?_)
  rw [hh]
  cases hu : h.testBit k with
  | false => rw [if_pos ((nx_bit hb hk).mpr hu)]; rfl
  | true => rw [if_neg (fun q => by rw [(nx_bit hb hk).mp q] at hu; cases hu)]; rfl
theorem cp_61 (hs : s = 22 ∨ s = 45) {h k : Nat} (hh : I s 1 = nI h) (hb : h < 65536) (hk : k < 16) : cd_c 61 [.ref s, .int (nI k)] (cd_mm L w I J) = some (some (.int (cd_tf (h.testBit k))), cd_mm L w I J) := by
  refine cd_c_of (l := [.ref s, .int (nI k)]) (by rcases hs with rfl | rfl <;> rfl) (by rcases hs with rfl | rfl <;> rfl) (cd_s61_0 hs ?_)
  rw [hh]
  cases hu : h.testBit k with
  | false => rw [if_pos ((nx_bit hb hk).mpr hu)]; rfl
  | true => rw [if_neg (fun q => by rw [(nx_bit hb hk).mp q] at hu; cases hu)]; rfl
/-- the cells of the first n things -/
def cf_tk (S : cd_S) (n c : Nat) : Bool := ce_any (fun u => decide (S 1 u = c)) n
theorem cp_24 (hs : s = 22 ∨ s = 45 ∨ s = 79 ∨ s = 96) {n : Nat} (hn : n ≤ 8) (hS : ∀ t, t < n → I (s + 1) t = nI (S 1 t)) (h64 : ∀ t, t < n → S 1 t < 64) : cd_c 24 [.ref s, .int (nI n)] (cd_mm L w I J) = some (some (.long (lN (ce_msk (cf_tk S n) 64))), cd_mm L w I J) := by
  refine cw_eq (cw_c (l := [.ref s, .int (nI n), .null, .null, .null]) (by rcases hs with rfl | rfl | rfl | rfl <;> rfl) (by rcases hs with rfl | rfl | rfl | rfl <;> rfl) ?_)
  refine cw_m (fun _ => cd_s24_0 hs) ?_
  have go := cw_up (L := L) (w := w) (Q := fun v2 I2 J2 => v2 = some (.long (lN (ce_msk (cf_tk S n) 64))) ∧ I2 = I ∧ J2 = J) (fun i (_ : Unit) => cd_go 24 4 [.ref s, .int (nI n), .long (lN (ce_msk (cf_tk S i) 64)), .null, .int (nI i)] [] (cd_mm L w I J)) (fun _ _ => True) n ?_ ?_ 0 () (Nat.zero_le _) trivial
  · exact go
  · intro _ _
    refine cw_m (fun _ => cd_s24_4 hs) ?_
    rw [if_neg (fun h => Int32.lt_irrefl h)]
    exact cw_ret ⟨rfl, rfl, rfl⟩
  · intro i _ hi _ K
    refine cw_m (fun _ => cd_s24_4 hs) ?_
    rw [if_pos (nI_lt hi (by omega)), if_pos (cd_inN (by omega) (by decide)), nI_clamp (by omega), hS i hi, cf_or1 (f := cf_tk S i) (h := cf_tk S (i + 1)) (h64 i hi) (fun c _ => rfl), nI_1]
    exact K () trivial
theorem cp_89 (hp : p = 66 ∨ p = 83) (hP : cf_P D p I J) (hd : D 0 1 ≤ 3) : cd_c 89 [.ref p] (cd_mm L w I J) = some (some (.long (lN (ce_msk (ce_cov D) 64))), cd_mm L w I J) := by
  refine cw_eq (cw_c (l := [.ref p, .null, .null, .null]) (by rcases hp with rfl | rfl <;> rfl) (by rcases hp with rfl | rfl <;> rfl) ?_)
  refine cw_m (fun _ => cd_s89_0 hp) ?_
  have go := cw_up (L := L) (w := w) (Q := fun v2 I2 J2 => v2 = some (.long (lN (ce_msk (ce_cov D) 64))) ∧ I2 = I ∧ J2 = J) (fun i (_ : Unit) => cd_go 89 4 [.ref p, .long (lN (ce_msk (fun c => ce_any (fun k => cd_und D k c) i) 64)), .null, .int (nI i)] [] (cd_mm L w I J)) (fun _ _ => True) (D 0 1) ?_ ?_ 0 () (Nat.zero_le _) trivial
  · exact go
  · intro _ _
    refine cw_m (fun _ => cd_s89_4 hp) ?_
    rw [hP.1.2.1, if_neg (fun h => Int32.lt_irrefl h)]
    exact cw_ret ⟨rfl, rfl, rfl⟩
  · intro i _ hi _ K
    refine cw_m (fun _ => cd_s89_4 hp) ?_
    rw [hP.1.2.1, if_pos (nI_lt hi (by omega)), if_pos (cd_inN (by omega) (by decide)), nI_clamp (by omega), (hP.2.2.1 i hi).2.2.2.2.2, cf_or (h := fun c => ce_any (fun k => cd_und D k c) (i + 1)) (fun c _ => rfl), nI_1]
    exact K () trivial
end CFQ
