/-! ===== the class: the draws remembered ===== -/
/-- where the first n things are and which lie, as one number -/
def cf_key (S : cd_S) : Nat → Nat
  | 0 => 0
  | n + 1 => cf_key S n * 128 + (2 * S 1 n + if (S 0 1).testBit n then 1 else 0)
theorem cf_key_lt {S : cd_S} : ∀ n, (∀ t, t < n → S 1 t < 64) → cf_key S n < 128 ^ n := by
  intro n
  induction n with
  | zero => intro _; exact Nat.one_pos
  | succ n ih =>
    intro h
    have h1 := ih (fun t ht => h t (by omega))
    have h2 := h n (by omega)
    show cf_key S n * 128 + (2 * S 1 n + if (S 0 1).testBit n then 1 else 0) < 128 ^ n * 128
    split <;> omega
theorem cf_key_inj {S T : cd_S} : ∀ n, (∀ t, t < n → S 1 t < 64) → (∀ t, t < n → T 1 t < 64) → cf_key S n = cf_key T n → ∀ t, t < n → S 1 t = T 1 t ∧ (S 0 1).testBit t = (T 0 1).testBit t := by
  intro n
  induction n with
  | zero => intro _ _ _ t ht; omega
  | succ n ih =>
    intro h1 h2 he t ht
    have a1 := h1 n (by omega)
    have a2 := h2 n (by omega)
    replace he : cf_key S n * 128 + (2 * S 1 n + if (S 0 1).testBit n then 1 else 0) = cf_key T n * 128 + (2 * T 1 n + if (T 0 1).testBit n then 1 else 0) := he
    have bs : (if (S 0 1).testBit n then 1 else 0) < 2 := by split <;> decide
    have bt : (if (T 0 1).testBit n then 1 else 0) < 2 := by split <;> decide
    by_cases htn : t = n
    · subst htn
      refine ⟨by omega, ?_⟩
      have : (if (S 0 1).testBit t then 1 else 0) = (if (T 0 1).testBit t then 1 else 0) := by omega
      revert this
      cases (S 0 1).testBit t <;> cases (T 0 1).testBit t <;> simp
    · exact ih (fun t ht => h1 t (by omega)) (fun t ht => h2 t (by omega)) (by omega) t (by omega)
theorem cf_low {m n : Nat} (h : m < 2 ^ n) {k : Nat} (hk : n ≤ k) : m.testBit k = false := Nat.testBit_lt_two_pow (Nat.lt_of_lt_of_le h (Nat.pow_le_pow_right (by decide) hk))
theorem cf_geo {D : cd_D} {S T : cd_S} (hS : cd_okS D S) (hT : cd_okS D T) (hk : cf_key T (D 0 0) = cf_key S (D 0 0)) (hh : T 0 2 = S 0 2) : ce_geo D T S := by
  have := cf_key_inj (D 0 0) hT.1 hS.1 hk
  refine ⟨fun t ht => (this t ht).1, ?_, hh⟩
  apply Nat.eq_of_testBit_eq
  intro i
  by_cases hi : i < D 0 0
  · exact (this i hi).2
  · rw [cf_low hT.2.1 (by omega), cf_low hS.2.1 (by omega)]
/-- draws and loads of a slot -/
def cf_wq (D : cd_D) (S : cd_S) (f : Nat) (I : Nat → Nat → Int32) : Prop := ∀ k, k < D 0 2 → I 9 (f + k) = zI (ce_draw D S 0 k) ∧ I 10 (f + k) = zI (ce_draw D S 1 k) ∧ I 11 (f + k) = zI (ce_draw D S 2 k)
/-- what is remembered is so -/
def cf_C (D : cd_D) (R : cd_S → Nat → Int32) (I : Nat → Nat → Int32) (J : Nat → Nat → Int64) : Prop := ∀ k, k < 256 → I 8 k = -1 ∨ ∃ T, cd_okS D T ∧ ce_inj D T ∧ I 8 k = nI (T 0 2) ∧ J 7 k = lN (cf_key T (D 0 0)) ∧ cf_wq D T (12 * k) I ∧ (I 12 k = nI 0 ∨ ∃ h, 1 ≤ h ∧ h ≤ 20 ∧ I 12 k = nI h ∧ I 13 k = R T h)
theorem cf_C.of {D : cd_D} {R : cd_S → Nat → Int32} {I I1 : Nat → Nat → Int32} {J J1 : Nat → Nat → Int64} (h : cf_C D R I J) (g : ∀ a k, 8 ≤ a → a ≤ 13 → I1 a k = I a k) (gJ : ∀ k, J1 7 k = J 7 k) : cf_C D R I1 J1 := fun k hk => by
  rw [g 8 _ (by decide) (by decide), gJ, g 12 _ (by decide) (by decide), g 13 _ (by decide) (by decide)]
  rcases h k hk with h | ⟨T, t1, t2, t3, t4, t5, t6⟩
  · exact Or.inl h
  · refine Or.inr ⟨T, t1, t2, t3, t4, fun j hj => ?_, t6⟩
    rw [g 9 _ (by decide) (by decide), g 10 _ (by decide) (by decide), g 11 _ (by decide) (by decide)]
    exact t5 j hj
theorem cf_sh1 : ∀ a, a < 64 → nI a <<< ((1 : Int32) &&& 31) = nI (2 * a) := by decide
theorem cf_bit {m k : Nat} (hm : m < 65536) (hk : k < 16) : (((nI m).toUInt32 >>> ((nI k).toUInt32 &&& Int32.toUInt32 31)).toInt32 &&& 1) = nI (if m.testBit k then 1 else 0) := by
  rw [nx_ush hm (by omega), show (1 : Int32) = nI 1 from rfl, nx_and, Nat.and_one_is_mod, Nat.testBit_eq_decide_div_mod_eq, Nat.shiftRight_eq_div_pow]
  congr 1
  generalize m / 2 ^ k = z
  by_cases h : z % 2 = 1
  · rw [decide_eq_true h, if_pos rfl, h]
  · rw [decide_eq_false h, if_neg (by decide)]; omega
section CFV
variable {L : Nat} {w : Bool} {I : Nat → Nat → Int32} {J : Nat → Nat → Int64} {D : cd_D} {S : cd_S}
variable {p s z : Nat} {R : cd_S → Nat → Int32}
theorem cp_50 (hs : s = 22 ∨ s = 45) (hQ : cf_S D S s I) (hS : cd_okS D S) (h8 : D 0 0 ≤ 8) : cd_c 50 [.ref s, .int (nI (D 0 0))] (cd_mm L w I J) = some (some (.long (lN (cf_key S (D 0 0)))), cd_mm L w I J) := by
  have hl1 : S 0 1 < 65536 := Nat.lt_of_lt_of_le hS.2.1 (Nat.le_trans (Nat.pow_le_pow_right (by decide) h8) (by decide))
  refine cw_eq (cw_c (l := [.ref s, .int (nI (D 0 0)), .null, .null, .null]) (by rcases hs with rfl | rfl <;> rfl) (by rcases hs with rfl | rfl <;> rfl) ?_)
  refine cw_m (fun _ => cd_s50_0 hs) ?_
  have go := cw_up (L := L) (w := w) (Q := fun v2 I2 J2 => v2 = some (.long (lN (cf_key S (D 0 0)))) ∧ I2 = I ∧ J2 = J) (fun i (_ : Unit) => cd_go 50 4 [.ref s, .int (nI (D 0 0)), .long (lN (cf_key S i)), .null, .int (nI i)] [] (cd_mm L w I J)) (fun _ _ => True) (D 0 0) ?_ ?_ 0 () (Nat.zero_le _) trivial
  · exact go
  · intro _ _
    refine cw_m (fun _ => cd_s50_4 hs) ?_
    rw [if_neg (fun h => Int32.lt_irrefl h)]
    exact cw_ret ⟨rfl, rfl, rfl⟩
  · intro i _ hi _ K
    have h64 := hS.1 i hi
    have hk := cf_key_lt (S := S) i (fun t ht => hS.1 t (by omega))
    have hk2 : cf_key S i < 2 ^ 49 := Nat.lt_of_lt_of_le hk (by
      rw [show (128 : Nat) = 2 ^ 7 from rfl, ← Nat.pow_mul]
      exact Nat.pow_le_pow_right (by decide) (by omega))
    refine cw_m (fun _ => cd_s50_4 hs) ?_
    have hb : (if (S 0 1).testBit i then 1 else 0) < 2 := by split <;> decide
    rw [if_pos (nI_lt hi (by omega)), if_pos (cd_inN (by omega) (by decide)), nI_clamp (by omega), hQ.2.1 i hi, hQ.1.1, cf_sh1 _ h64, cf_bit hl1 (by omega), nI_l (by omega), nI_l (by omega), show (7 : Int32) = nI 7 from rfl, wb_shl _ (by decide), show (2 : Nat) ^ 7 = 128 from rfl, g_or (k := 7) (p := 128) rfl (by omega) (by omega), show cf_key S i * 128 + 2 * S 1 i = (cf_key S i * 64 + S 1 i) * 2 by omega, g_or (k := 1) (p := 2) rfl hb (by omega), nI_1]
    have := K () trivial
    rw [show cf_key S (i + 1) = (cf_key S i * 64 + S 1 i) * 2 + (if (S 0 1).testBit i then 1 else 0) by
      show cf_key S i * 128 + (2 * S 1 i + if (S 0 1).testBit i then 1 else 0) = _
      omega] at this
    exact this
theorem cf_slot (x : Int32) : ∃ k, k < 256 ∧ x &&& 255 = nI k := by
  obtain ⟨n, -, rfl⟩ := wb_of32 x
  refine ⟨n &&& 255, Nat.lt_of_le_of_lt Nat.and_le_right (by decide), ?_⟩
  rw [show (255 : Int32) = nI 255 from rfl, nx_and]
theorem cp_58 (hp : p = 66 ∨ p = 83) (hs : s = 22 ∨ s = 45) (hD : cd_okD D) (hS : cd_okS D S) (hj : ce_inj D S) (hP : cf_P D p I J) (hQ : cf_S D S s I) (hC : cf_C D R I J) : cw L w (cd_c 58 [.ref 6, .ref p, .ref s] (cd_mm L w I J)) (fun v I1 J1 => ∃ k, k < 256 ∧ v = some (.int (nI k)) ∧ (∀ a j, a ≠ 7 → J1 a j = J a j) ∧ (∀ a j, ¬ (8 ≤ a ∧ a ≤ 12 ∨ 15 ≤ a ∧ a ≤ 17) → I1 a j = I a j) ∧ cf_C D R I1 J1 ∧ cf_wq D S (12 * k) I1 ∧ I1 8 k = nI (S 0 2) ∧ J1 7 k = lN (cf_key S (D 0 0))) := by
  have h8 := hD.1.1
  have h12 := hD.1.2.2.1
  have hl2 : S 0 2 < 4096 := Nat.lt_of_lt_of_le hS.2.2.1 (Nat.le_trans (Nat.pow_le_pow_right (by decide) h12) (by decide))
  have kl : ∀ T : cd_S, cd_okS D T → cf_key T (D 0 0) < 2 ^ 56 := fun T hT => Nat.lt_of_lt_of_le (cf_key_lt (D 0 0) hT.1) (by
    rw [show (128 : Nat) = 2 ^ 7 from rfl, ← Nat.pow_mul]
    exact Nat.pow_le_pow_right (by decide) (by omega))
  refine cw_c (l := [.ref 6, .ref p, .ref s, .null, .null, .null, .null, .null]) (by rcases hp with rfl | rfl <;> rcases hs with rfl | rfl <;> rfl) (by rcases hp with rfl | rfl <;> rcases hs with rfl | rfl <;> rfl) ?_
  refine cw_m (fun _ => cd_s58_0 hp hs) ?_
  rw [hP.1.1, cp_50 hs hQ hS h8, cw_bl]
  refine cw_m (fun _ => cd_s58_4 hp hs) ?_
  generalize (lN (cf_key S (D 0 0)) * (-7046029254386353131)) + (((I s 2).toInt64) * (-4417276706812531889)) = mix
  show cw L w (cd_go 58 22 [.ref 6, .ref p, .ref s, .long (lN (cf_key S (D 0 0))), .null, .long mix, .null, .int ((((mix.toUInt64 >>> ((40 : Int32).toInt64.toUInt64 &&& Int64.toUInt64 63)).toInt64).toInt32) &&& 255)] [] (cd_mm L w I J)) _
  obtain ⟨k, hk, e⟩ := cf_slot (((mix.toUInt64 >>> ((40 : Int32).toInt64.toUInt64 &&& Int64.toUInt64 63)).toInt64).toInt32)
  rw [e]
  clear e
  have hin : cd_in (nI k) 256 = true := cd_inN hk (by decide)
  refine cw_m (fun _ => cd_s58_22 hp hs) ?_
  rw [if_pos hin, if_pos hin, if_pos hin, if_pos hin, if_pos hin, nI_clamp (by omega), hQ.1.2]
  -- not remembered
  have miss : cw L w ((cd_cv (cd_c 53 [.ref 14, .ref p, .ref s] (cd_mm L w (cd_up (cd_up I 8 k (nI (S 0 2))) 12 k 0) (cd_up J 7 k (lN (cf_key S (D 0 0))))))).bind fun m => cd_go 58 57 [.ref 6, .ref p, .ref s, .long (lN (cf_key S (D 0 0))), .null, .long mix, .null, .int (nI k)] [] m) (fun v I1 J1 => ∃ k, k < 256 ∧ v = some (.int (nI k)) ∧ (∀ a j, a ≠ 7 → J1 a j = J a j) ∧ (∀ a j, ¬ (8 ≤ a ∧ a ≤ 12 ∨ 15 ≤ a ∧ a ≤ 17) → I1 a j = I a j) ∧ cf_C D R I1 J1 ∧ cf_wq D S (12 * k) I1 ∧ I1 8 k = nI (S 0 2) ∧ J1 7 k = lN (cf_key S (D 0 0))) := by
    generalize hI1 : cd_up (cd_up I 8 k (nI (S 0 2))) 12 k 0 = I1
    generalize hJ1 : cd_up J 7 k (lN (cf_key S (D 0 0))) = J1
    have f1 : ∀ a j, ¬ ((a = 8 ∨ a = 12) ∧ j = k) → I1 a j = I a j := fun a j h => by rw [← hI1, cd_up_k2 (by omega), cd_up_k2 (by omega)]
    have fJ : ∀ a j, ¬ (a = 7 ∧ j = k) → J1 a j = J a j := fun a j h => by rw [← hJ1, cd_up_k2 h]
    have g8 : I1 8 k = nI (S 0 2) := by rw [← hI1, cd_up_a (by decide), cd_up_s]
    have g12 : I1 12 k = nI 0 := by rw [← hI1, cd_up_s]; rfl
    have g7 : J1 7 k = lN (cf_key S (D 0 0)) := by rw [← hJ1, cd_up_s]
    clear hI1 hJ1
    have hP1 := hP.of (I1 := I1) (J1 := J1) (fun a k h1 h2 => f1 a k (by omega)) (fun j => fJ _ _ (by omega))
    have hQ1 := hQ.of (I1 := I1) (fun a k h1 h2 => f1 a k (by omega))
    refine cw_cv (cw_mono (cp_53 hp hs (Or.inl rfl) hD hS hj hP1 hQ1) ?_)
    intro v I2 J2 ⟨hv, hJ2, f2, V2⟩
    have hJ2 := hJ2.symm
    subst hJ2
    refine ⟨hv, ?_⟩
    refine cw_m (fun _ => cd_s58_57 hp hs) ?_
    rw [show nI k * 12 = nI (12 * k) by rw [show (12 : Int32) = nI 12 from rfl, pk_mul, Nat.mul_comm]]
    refine cw_cv (cw_mono (cp_57 hp hs hD hS (hP1.of (I1 := I2) (J1 := J1) (fun a k h1 h2 => f2 a k (by omega)) (fun _ => rfl)) (hQ1.of (I1 := I2) (fun a k h1 h2 => f2 a k (by omega))) V2 (f := 12 * k) (by omega)) ?_)
    intro v I3 J3 ⟨hv, hJ3, f3, W3⟩
    have hJ3 := hJ3.symm
    subst hJ3
    refine ⟨hv, ?_⟩
    refine cw_m (fun _ => cd_s58_64 hp hs) ?_
    have wq : cf_wq D S (12 * k) I3 := fun j hj => W3 j (by omega)
    have g83 : I3 8 k = nI (S 0 2) := by rw [f3 _ _ (by omega), f2 _ _ (by omega)]; exact g8
    have g123 : I3 12 k = nI 0 := by rw [f3 _ _ (by omega), f2 _ _ (by omega)]; exact g12
    refine cw_ret ⟨k, hk, rfl, fun a j h => fJ a j (by omega), fun a j h => by rw [f3 a j (by omega), f2 a j (by omega), f1 a j (by omega)], fun i hi => ?_, wq, g83, g7⟩
    by_cases hik : i = k
    · subst hik
      exact Or.inr ⟨S, hS, hj, g83, g7, wq, Or.inl g123⟩
    · rw [f3 8 i (by omega), f2 8 i (by omega), f1 8 i (by omega), fJ 7 i (by omega), f3 12 i (by omega), f2 12 i (by omega), f1 12 i (by omega), f3 13 i (by omega), f2 13 i (by omega), f1 13 i (by omega)]
      rcases hC i hi with h | ⟨T, t1, t2, t3, t4, t5, t6⟩
      · exact Or.inl h
      · refine Or.inr ⟨T, t1, t2, t3, t4, fun j hj => ?_, t6⟩
        rw [f3 9 _ (by omega), f2 9 _ (by omega), f1 9 _ (by omega), f3 10 _ (by omega), f2 10 _ (by omega), f1 10 _ (by omega), f3 11 _ (by omega), f2 11 _ (by omega), f1 11 _ (by omega)]
        exact t5 j hj
  by_cases h1 : I 8 k = nI (S 0 2)
  · rw [if_pos h1]
    by_cases h2 : lg_cmp (J 7 k) (lN (cf_key S (D 0 0))) = 0
    · rw [if_pos h2]
      have h2 := (lg_cmp_eq _ _).mp h2
      refine cw_m (fun _ => cd_s58_64 hp hs) ?_
      refine cw_ret ⟨k, hk, rfl, fun _ _ _ => rfl, fun _ _ _ => rfl, hC, ?_, h1, h2⟩
      rcases hC k hk with h | ⟨T, t1, t2, t3, t4, t5, t6⟩
      · rw [h1] at h
        rw [show (-1 : Int32) = zI (-1) from rfl, ← zI_n, zI_eq (by omega) (by omega) (by decide) (by decide)] at h
        omega
      · have hT2 : T 0 2 < 4096 := Nat.lt_of_lt_of_le t1.2.2.1 (Nat.le_trans (Nat.pow_le_pow_right (by decide) h12) (by decide))
        have e1 : T 0 2 = S 0 2 := (nI_eq (by omega) (by omega)).mp (t3.symm.trans h1)
        have k1 := kl T t1
        have k2 := kl S hS
        have e2 : cf_key T (D 0 0) = cf_key S (D 0 0) := (ce_lNeq (by omega) (by omega)).mp (t4.symm.trans h2)
        have geo := cf_geo hS t1 e2 e1
        intro j hj
        rw [← geo.draw hD hj, ← geo.draw hD hj, ← geo.draw hD hj]
        exact t5 j hj
    · rw [if_neg h2]
      exact miss
  · rw [if_neg h1]
    exact miss
end CFV
