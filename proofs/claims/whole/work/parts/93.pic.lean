/-! ===== the class: its whole picture ===== -/
/-- the greatest room's cells, as remembered -/
noncomputable def cf_R (D : cd_D) (T : cd_S) (h : Nat) : Int32 := nI (ce_gs (ce_rm D T h))
/-- text, fault, wants, events, images -/
def cf_Y (D : cd_D) (Y : ce_Y) (I : Nat → Nat → Int32) : Prop := (I 3 1 = nI (ceN Y) ∧ I 2 15 = zI (ceP Y) ∧ I 2 14 = nI (ceU Y)) ∧ (∀ j, j < ceN Y → I 4 j = nI (ceX Y j)) ∧ (∀ i, i < ceU Y → ∀ k, k < 5 → I (61 + i) k = nI (ceW Y i k)) ∧ cf_L (ceE Y) 42 I ∧ ∀ i, i < 2 → I 58 i = cd_tf (ceB Y i) ∧ (ceB Y i = true → cf_S D (ceK Y i) (50 + 4 * i) I ∧ I 59 i = nI (ceK Y i 0 3))
/-- the latest answer of findMost -/
def cf_Q (D : cd_D) (I : Nat → Nat → Int32) (J : Nat → Nat → Int64) : Prop := I 21 8 = nI 0 ∨ (I 21 8 = nI 1 ∧ D 0 2 ≤ 7 ∧ ∃ T h p q, cd_okS D T ∧ h ≤ 20 ∧ p ≤ 12 ∧ q ≤ 12 ∧ J 21 9 = lN (cf_key T (D 0 0)) ∧ I 21 10 = nI h ∧ I 21 11 = nI p ∧ I 21 12 = nI q ∧ I 21 6 = zI (ce_mo D T h p q (3 ^ D 0 2)).1 ∧ I 21 7 = nI (ce_mo D T h p q (3 ^ D 0 2)).2)
def cf_Z (D : cd_D) (S : cd_S) (Y : ce_Y) (w : Bool) (I : Nat → Nat → Int32) (J : Nat → Nat → Int64) : Prop := cf_P D (cd_ple w) I J ∧ cf_S D S 45 I ∧ I 2 16 = nI (S 0 3) ∧ cf_Y D Y I ∧ cf_Q D I J
def cf_M (D : cd_D) (S : cd_S) (Y : ce_Y) (w : Bool) (I : Nat → Nat → Int32) (J : Nat → Nat → Int64) : Prop := cf_Z D S Y w I J ∧ cf_C D (cf_R D) I J
/-- the reference's cells and the script stand as they stood -/
def cf_fr (I I1 : Nat → Nat → Int32) : Prop := ∀ a k, a = 1 ∨ 100 ≤ a → I1 a k = I a k
theorem cf_fr.rf {I : Nat → Nat → Int32} : cf_fr I I := fun _ _ _ => rfl
theorem cf_fr.tr {I I1 I2 : Nat → Nat → Int32} (h : cf_fr I I1) (h2 : cf_fr I1 I2) : cf_fr I I2 := fun a k g => (h2 a k g).trans (h a k g)
/-- scratch of the class -/
def cf_scr (a k : Nat) : Prop := a = 5 ∨ 8 ≤ a ∧ a ≤ 20 ∨ a = 21 ∧ k = 5 ∨ 22 ≤ a ∧ a ≤ 41
theorem cf_ple (w : Bool) : cd_ple w = 66 ∨ cd_ple w = 83 := by cases w; exact Or.inl rfl; exact Or.inr rfl
theorem cf_Y.of {D : cd_D} {Y : ce_Y} {I I1 : Nat → Nat → Int32} (h : cf_Y D Y I) (hY : ceU Y ≤ 4) (g : ∀ a k, (a = 3 ∧ k = 1) ∨ (a = 2 ∧ (k = 14 ∨ k = 15)) ∨ a = 4 ∨ 42 ≤ a ∧ a ≤ 44 ∨ 50 ≤ a ∧ a ≤ 64 → I1 a k = I a k) : cf_Y D Y I1 := by
  obtain ⟨⟨a1, a2, a3⟩, b, c, d, e⟩ := h
  refine ⟨⟨(g _ _ (by omega)).trans a1, (g _ _ (by omega)).trans a2, (g _ _ (by omega)).trans a3⟩, fun j hj => (g _ _ (by omega)).trans (b j hj), fun i hi k hk => (g _ _ (by omega)).trans (c i hi k hk), ⟨(g _ _ (by omega)).trans d.1, fun j hj => ⟨(g _ _ (by omega)).trans (d.2 j hj).1, (g _ _ (by omega)).trans (d.2 j hj).2⟩⟩, fun i hi => ⟨(g _ _ (by omega)).trans (e i hi).1, fun hb => ⟨((e i hi).2 hb).1.of (fun a k h1 h2 => g a k (by omega)), (g _ _ (by omega)).trans ((e i hi).2 hb).2⟩⟩⟩
theorem cf_Q.of {D : cd_D} {I I1 : Nat → Nat → Int32} {J J1 : Nat → Nat → Int64} (h : cf_Q D I J) (g : ∀ k, k ≠ 5 → I1 21 k = I 21 k) (gJ : ∀ k, J1 21 k = J 21 k) : cf_Q D I1 J1 := by
  unfold cf_Q
  rw [g 8 (by decide), g 10 (by decide), g 11 (by decide), g 12 (by decide), g 6 (by decide), g 7 (by decide), gJ 9]
  exact h
theorem cf_Z.of {D : cd_D} {S : cd_S} {Y : ce_Y} {w : Bool} {I I1 : Nat → Nat → Int32} {J J1 : Nat → Nat → Int64} (h : cf_Z D S Y w I J) (hY : ceU Y ≤ 4) (g : ∀ a k, a < 100 → ¬ cf_scr a k → I1 a k = I a k) (gJ : ∀ a k, a ≠ 7 → J1 a k = J a k) : cf_Z D S Y w I1 J1 := by
  obtain ⟨a, b, c, d, e⟩ := h
  have hp := cf_ple w
  unfold cf_scr at g
  exact ⟨a.of (fun a k h1 h2 => g a k (by omega) (by omega)) (fun k => gJ _ _ (by omega)), b.of (fun a k h1 h2 => g a k (by omega) (by omega)), (g _ _ (by omega) (by omega)).trans c, d.of hY (fun a k h => g a k (by omega) (by omega)), e.of (fun k hk => g _ _ (by omega) (by omega)) (fun k => gJ _ _ (by omega))⟩
def cf_post (a : Value) (D : cd_D) (S : cd_S) (Y : ce_Y) (w : Bool) (I : Nat → Nat → Int32) : Option Value → (Nat → Nat → Int32) → (Nat → Nat → Int64) → Prop := fun v I1 J1 => v = some a ∧ cf_M D S Y w I1 J1 ∧ cf_fr I I1
section CGD
variable {L : Nat} {w : Bool} {I : Nat → Nat → Int32} {J : Nat → Nat → Int64} {D : cd_D} {S : cd_S}
variable {Y : ce_Y}
theorem cf_lt_ix {x : Int32} {n : Nat} (hn : n < 2 ^ 31) : (if x < 0 then (0 : Int32) else if x < nI n then 1 else 0) = cd_tf (ce_ix x n) := by
  by_cases h : ce_ix x n = true
  · obtain ⟨t, ht, rfl⟩ := ce_ix_t h
    rw [h, if_neg (nI_pos (by omega)), if_pos (nI_lt ht hn)]
    rfl
  · have h' : ce_ix x n = false := by
      cases hq : ce_ix x n with
      | false => rfl
      | true => exact absurd hq h
    rw [h']
    by_cases h0 : x < 0
    · rw [if_pos h0]; rfl
    · rw [if_neg h0]
      by_cases h1 : x < nI n
      · exact absurd (show ce_ix x n = true from by
          unfold ce_ix
          rw [decide_eq_true (Int32.not_lt.mp h0), Bool.true_and, decide_eq_true_eq]
          have := Int32.lt_iff_toInt_lt.mp h1
          rw [← zI_n, zI_ti (by omega) (by omega)] at this
          exact this) h
      · rw [if_neg h1]; rfl
theorem cf_ifs {c : Prop} [Decidable c] {c2 : Prop} [Decidable c2] {M : cd_M} : (if c then (some (some (Value.int 0), M) : Option cd_Ret) else if c2 then some (some (.int 1), M) else some (some (.int 0), M)) = some (some (.int (if c then 0 else if c2 then 1 else 0)), M) := by
  split
  · rfl
  · split <;> rfl
theorem cp_49 (hP : cf_P D (cd_ple w) I J) (hD : cd_okD D) {x : Int32} : cd_c 49 [.ref 2, .int x] (cd_mm L w I J) = some (some (.int (cd_tf (ce_ix x (D 0 0)))), cd_mm L w I J) := by
  have := hD.1.1
  refine cd_c_of (l := [_, _]) rfl rfl (cd_s49_0 ?_)
  rw [hP.1.1, cf_ifs, cf_lt_ix (by omega)]
theorem cp_64 (hP : cf_P D (cd_ple w) I J) (hD : cd_okD D) {x : Int32} : cd_c 64 [.ref 2, .int x] (cd_mm L w I J) = some (some (.int (cd_tf (ce_ix x (D 0 2)))), cd_mm L w I J) := by
  have := hD.1.2.2.1
  refine cd_c_of (l := [_, _]) rfl rfl (cd_s64_0 ?_)
  rw [hP.1.2.2.1, cf_ifs, cf_lt_ix (by omega)]
theorem cp_68 (hP : cf_P D (cd_ple w) I J) (hD : cd_okD D) {x : Int32} : cd_c 68 [.ref 2, .int x] (cd_mm L w I J) = some (some (.int (cd_tf (ce_ix x (D 0 1)))), cd_mm L w I J) := by
  have := hD.1.2.1
  refine cd_c_of (l := [_, _]) rfl rfl (cd_s68_0 ?_)
  rw [hP.1.2.1, cf_ifs, cf_lt_ix (by omega)]
theorem cp_69 {x : Int32} : cd_c 69 [.ref 2, .int x] (cd_mm L w I J) = some (some (.int (cd_tf (ce_ix x 64))), cd_mm L w I J) := by
  refine cd_c_of (l := [_, _]) rfl rfl (cd_s69_0 ?_)
  rw [show (64 : Int32) = nI 64 from rfl, cf_ifs, cf_lt_ix (by decide)]
theorem cf_ifs2 {c : Prop} [Decidable c] {c2 : Prop} [Decidable c2] {M : cd_M} : (if c then (some (some (Value.int 0), M) : Option cd_Ret) else if c2 then some (some (.int 0), M) else some (some (.int 1), M)) = some (some (.int (if c then 0 else if c2 then 0 else 1)), M) := by
  split
  · rfl
  · split <;> rfl
theorem cf_le_ix {x : Int32} {n : Nat} (hn : n + 1 < 2 ^ 31) : (if x < 0 then (0 : Int32) else if nI n < x then 0 else 1) = cd_tf (ce_ix x (n + 1)) := by
  rw [← cf_lt_ix hn]
  by_cases h0 : x < 0
  · rw [if_pos h0, if_pos h0]
  · rw [if_neg h0, if_neg h0]
    have e : (nI n < x) ↔ ¬ (x < nI (n + 1)) := by
      rw [Int32.lt_iff_toInt_lt, Int32.lt_iff_toInt_lt, ← zI_n, ← zI_n, zI_ti (by omega) (by omega), zI_ti (by omega) (by omega)]
      omega
    by_cases h : x < nI (n + 1)
    · rw [if_pos h, if_neg (fun q => e.mp q h)]
    · rw [if_neg h, if_pos (e.mpr h)]
theorem cp_74 {x : Int32} : cd_c 74 [.int x] (cd_mm L w I J) = some (some (.int (cd_tf (ce_ix x 1000))), cd_mm L w I J) := by
  refine cd_c_of (l := [_]) rfl rfl (cd_s74_0 ?_)
  rw [show (999 : Int32) = nI 999 from rfl, cf_ifs2, cf_le_ix (by decide)]
theorem cp_88 {x : Int32} : cd_c 88 [.int x] (cd_mm L w I J) = some (some (.int (cd_tf (ce_ih x))), cd_mm L w I J) := by
  refine cd_c_of (l := [_]) rfl rfl (cd_s88_0 ?_)
  unfold ce_ih
  by_cases h1 : x < 1
  · rw [if_pos h1, decide_eq_false (fun q => Int32.not_lt.mpr q h1)]; rfl
  · rw [if_neg h1, decide_eq_true (Int32.not_lt.mp h1), Bool.true_and]
    by_cases h2 : 20 < x
    · rw [if_pos h2, decide_eq_false (fun q => Int32.not_lt.mpr q h2)]; rfl
    · rw [if_neg h2, decide_eq_true (Int32.not_lt.mp h2)]; rfl
/-- hangs laid anew for a question -/
theorem cp_53p (hK : ce_ok D S Y) (hM : cf_M D S Y w I J) : cw L w (cd_c 53 [.ref 38, .ref (cd_ple w), .ref 45] (cd_mm L w I J)) (fun v I1 J1 => v = none ∧ cf_M D S Y w I1 J1 ∧ cf_fr I I1 ∧ cf_V 38 (cf_H D S) I1) := by
  refine cw_mono (cp_53 (cf_ple w) (Or.inr rfl) (Or.inr rfl) hK.1 hK.2.1.1 hK.2.1.2.2.1 hM.1.1 hM.1.2.1) ?_
  intro v I1 J1 ⟨hv, hJ, f, V⟩
  have hJ := hJ.symm
  subst hJ
  exact ⟨hv, ⟨hM.1.of hK.2.2.1.2.2.2.1 (fun a k _ h => f a k (by unfold cf_scr at h; omega)) (fun _ _ _ => rfl), hM.2.of (fun a k h1 h2 => f a k (by omega)) (fun _ => rfl)⟩, fun a k h => f a k (by omega), V⟩
theorem cp_58p (hK : ce_ok D S Y) (hM : cf_M D S Y w I J) : cw L w (cd_c 58 [.ref 6, .ref (cd_ple w), .ref 45] (cd_mm L w I J)) (fun v I1 J1 => ∃ k, k < 256 ∧ v = some (.int (nI k)) ∧ cf_M D S Y w I1 J1 ∧ cf_fr I I1 ∧ cf_wq D S (12 * k) I1) := by
  refine cw_mono (cp_58 (cf_ple w) (Or.inr rfl) hK.1 hK.2.1.1 hK.2.1.2.2.1 hM.1.1 hM.1.2.1 hM.2) ?_
  intro v I1 J1 ⟨k, hk, hv, fJ, f, C1, W1, _, _⟩
  exact ⟨k, hk, hv, ⟨hM.1.of hK.2.2.1.2.2.2.1 (fun a k _ h => f a k (by unfold cf_scr at h; omega)) fJ, C1⟩, fun a k h => f a k (by omega), W1⟩
theorem cp_79p (hK : ce_ok D S Y) (hM : cf_M D S Y w I J) {o : Option Nat} {b : Nat} (ho : ∀ u, o = some u → u < 2 ^ 31) (hb : b ≤ 999) : cw L w (cd_c 79 [.ref 5, .ref (cd_ple w), .ref 45, .int (cd_oi o), .int (nI b)] (cd_mm L w I J)) (fun v I1 J1 => v = some (.int (cd_tf (ce_next D S o b).isNone)) ∧ cf_M D S Y w I1 J1 ∧ cf_fr I I1) := by
  refine cw_mono (cp_79 (cf_ple w) (Or.inr rfl) hK.1 hK.2.1.1 hK.2.1.2.2.1 hM.1.1 hM.1.2.1 hM.2 ho hb) ?_
  intro v I1 J1 ⟨fJ, f, C1, ev⟩
  refine ⟨?_, ⟨hM.1.of hK.2.2.1.2.2.2.1 (fun a k _ h => f a k (by unfold cf_scr at h; omega)) fJ, C1⟩, fun a k h => f a k (by omega)⟩
  cases hn : ce_next D S o b with
  | none => rw [hn] at ev; exact ev
  | some e => rw [hn] at ev; exact ev.1
/-- a rest of the state that stands -/
theorem cp_82p (hK : ce_ok D S Y) (hM : cf_M D S Y w I J) {o : Option Nat} {b : Nat} (ho : ∀ u, o = some u → u < 2 ^ 31) (hb : b ≤ 999) : cw L w (cd_c 82 [.ref 5, .ref (cd_ple w), .ref 45, .int (cd_oi o), .int (nI b), .ref 42] (cd_mm L w I J)) (fun v I1 J1 => v = none ∧ cf_M D (ce_run D 60 S o b).2 (ceSE Y (ce_run D 60 S o b).1) w I1 J1 ∧ cf_fr I I1) := by
  refine cw_mono (cp_82 (cf_ple w) (Or.inr rfl) (Or.inr rfl) hK.1 hK.2.1 hM.1.1 hM.1.2.1 hM.2 ho hb) ?_
  intro v I1 J1 ⟨hv, fJ, f, C1, Q1, L1⟩
  obtain ⟨⟨z1, z2, z3, z4, z5⟩, z6⟩ := hM
  have hp := cf_ple w
  have hU := hK.2.2.1.2.2.2.1
  obtain ⟨⟨a1, a2, a3⟩, b, c, d, e⟩ := z4
  refine ⟨hv, ⟨⟨z1.of (fun a k h1 h2 => f a k (by omega)) (fun k => fJ _ _ (by omega)), Q1, ?_, ⟨⟨(f _ _ (by omega)).trans a1, (f _ _ (by omega)).trans a2, (f _ _ (by omega)).trans a3⟩, fun j hj => (f _ _ (by omega)).trans (b j hj), fun i hi k hk => ?_, L1, fun i hi => ⟨(f _ _ (by omega)).trans (e i hi).1, fun hb => ⟨((e i hi).2 hb).1.of (fun a k h1 h2 => f a k (by omega)), (f _ _ (by omega)).trans ((e i hi).2 hb).2⟩⟩⟩, z5.of (fun k hk => f _ _ (by omega)) (fun k => fJ _ _ (by omega))⟩, C1⟩, fun a k h => f a k (by omega)⟩
  · rw [f _ _ (by omega), z3, ce_run_03]
  · have hi4 : i < 4 := Nat.lt_of_lt_of_le hi hU
    exact (f _ _ (by omega)).trans (c i hi k hk)
end CGD
