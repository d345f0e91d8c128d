/-! ===== the class: draws and loads weighed ===== -/
/-- the first cells of three rows from place f on: sums so far -/
def cf_wt (D : cd_D) (S : cd_S) (f j c : Nat) (I : Nat → Nat → Int32) : Prop := ∀ k, k < 12 → I 9 (f + k) = zI (ce_acc D S 0 k j c) ∧ I 10 (f + k) = zI (ce_acc D S 1 k j c) ∧ I 11 (f + k) = zI (ce_acc D S 2 k j c)
theorem cf_acc_s {D : cd_D} {S : cd_S} {q k : Nat} (i : Nat) : ce_acc D S q k ((i + 1) / 64) ((i + 1) % 64) = ce_acc D S q k (i / 64) (i % 64) + ce_T D S q (i / 64) (i % 64) k := by
  by_cases h : i % 64 = 63
  · rw [show (i + 1) / 64 = i / 64 + 1 by omega, show (i + 1) % 64 = 0 by omega, ← ce_acc_row, ← ce_acc_s, h]
  · rw [show (i + 1) / 64 = i / 64 by omega, show (i + 1) % 64 = i % 64 + 1 by omega, ce_acc_s]
theorem cf_acc_b {D : cd_D} {S : cd_S} (hD : cd_okD D) {q k : Nat} : ∀ i, i ≤ 64 * D 0 1 → -(9 * (i : Int)) ≤ ce_acc D S q k (i / 64) (i % 64) ∧ ce_acc D S q k (i / 64) (i % 64) ≤ 9 * (i : Int) := by
  intro i
  induction i with
  | zero => intro _; exact ⟨Int.le_refl _, Int.le_refl _⟩
  | succ i ih =>
    intro hi
    have := ih (by omega)
    have hb := ce_T_b (S := S) hD (q := q) (j := i / 64) (c := i % 64) (k := k) (by omega)
    rw [cf_acc_s]
    omega
theorem cf_T_none {D : cd_D} {S : cd_S} {j c : Nat} (hj : j < D 0 1) (h : (cf_H D S j c).2 = none) (q k : Nat) : ce_T D S q j c k = 0 := by
  unfold cf_H at h
  unfold ce_T
  rw [decide_eq_true hj, Bool.true_and] at h
  cases hu : cd_und D j c with
  | false => rfl
  | true =>
    rw [hu, if_pos rfl] at h
    replace h : cd_leans D S j c = none := h
    rw [h]
    rfl
theorem cf_T_some {D : cd_D} {S : cd_S} {j c h : Nat} (hj : j < D 0 1) (hh : (cf_H D S j c).2 = some h) (q k : Nat) : ce_T D S q j c k = if k = h then ce_g D S q j c h else 0 := by
  unfold cf_H at hh
  unfold ce_T
  rw [decide_eq_true hj, Bool.true_and] at hh
  cases hu : cd_und D j c with
  | false => rw [hu] at hh; cases hh
  | true =>
    rw [hu, if_pos rfl] at hh
    replace hh : cd_leans D S j c = some h := hh
    rw [hh, Bool.true_and]
    by_cases hk : k = h
    · rw [if_pos hk, hk, decide_eq_true rfl, if_pos rfl]
    · rw [if_neg hk, decide_eq_false (fun e => hk (by cases e; rfl)), if_neg (by decide)]
theorem cf_H_lt {D : cd_D} {S : cd_S} {j c h : Nat} (hh : (cf_H D S j c).2 = some h) : h < D 0 2 := by
  unfold cf_H at hh
  split at hh
  · replace hh : cd_leans D S j c = some h := hh
    rw [ce_leans_ca] at hh
    cases hq : ce_ca D S j c (D 0 2) with
    | none => rw [hq] at hh; cases hh
    | some y =>
      rw [hq] at hh
      dsimp only at hh
      split at hh
      · cases hh; exact (ce_ca_lt hq).1
      · cases hh
  · cases hh
section CFU
variable {L : Nat} {w : Bool} {I : Nat → Nat → Int32} {J : Nat → Nat → Int64} {D : cd_D} {S : cd_S}
variable {p s z : Nat}
theorem cp_55 {a n f t : Nat} {x : Int32} (hn : n < 2 ^ 31) (hft : f ≤ t) (htn : t ≤ n) (ha : ∀ I J, cd_k (cd_mm L w I J) a = 20 ∧ cd_n (cd_mm L w I J) a = n) (h0 : cd_ent 55 [.ref a, .int (nI f), .int (nI t), .int x] = [.ref a, .int (nI f), .int (nI t), .int x, .null]) (h1 : (Nat.ble (cd_args [.ref a, .int (nI f), .int (nI t), .int x]).length (cd_mx 55) && [Value.ref a, Value.int (nI f), Value.int (nI t), Value.int x].all cd_nz) = true) : cw L w (cd_c 55 [.ref a, .int (nI f), .int (nI t), .int x] (cd_mm L w I J)) (fun v I1 J1 => v = none ∧ J1 = J ∧ ∀ b j, I1 b j = if b = a ∧ f ≤ j ∧ j < t then x else I b j) := by
  refine cw_c h0 h1 ?_
  refine cw_m (fun _ => cd_q55_0) ?_
  rw [(ha I J).1, (ha I J).2, if_pos rfl, show Int32.ofNat n = nI n from rfl]
  have c54 : cd_c 54 [.int (nI n), .int (nI f), .int (nI t)] (cd_mm L w I J) = some (none, cd_mm L w I J) := by
    refine cd_c_of (l := [_, _, _]) rfl rfl (cd_s54_0 ?_)
    rw [if_neg (nI_nlt hft (by omega)), if_neg (nI_pos (by omega)), if_neg (nI_nlt htn (by omega))]
  rw [c54, cw_bv]
  refine cw_m (fun _ => cd_q55_5) ?_
  refine cw_up (fun i (I1 : Nat → Nat → Int32) => cd_go 55 7 [.ref a, .int (nI f), .int (nI t), .int x, .int (nI i)] [] (cd_mm L w I1 J)) (fun i I1 => f ≤ i ∧ ∀ b j, I1 b j = if b = a ∧ f ≤ j ∧ j < i then x else I b j) t ?_ ?_ f I hft ⟨Nat.le_refl _, fun b j => by rw [if_neg (by omega)]⟩
  · intro I1 ⟨_, hI⟩
    refine cw_m (fun _ => cd_q55_7) ?_
    rw [if_neg (fun h => Int32.lt_irrefl h)]
    exact cw_ret ⟨rfl, rfl, hI⟩
  · intro i I1 hi ⟨hfi, hI⟩ K
    refine cw_m (fun _ => cd_q55_7) ?_
    rw [if_pos (nI_lt hi (by omega)), if_pos ⟨(ha I1 J).1, by rw [(ha I1 J).2]; exact cd_inN (by omega) hn⟩, nI_clamp (by omega), nI_1]
    refine K (cd_up I1 a i x) ⟨by omega, fun b j => ?_⟩
    rw [cw_uu, hI]
    by_cases hb : b = a
    · rw [if_pos hb]
      by_cases hj : j = i
      · rw [if_pos hj, if_pos ⟨hb, by omega, by omega⟩]
      · rw [if_neg hj]
        by_cases hji : f ≤ j ∧ j < i
        · rw [if_pos ⟨hb, hji.1, hji.2⟩, if_pos ⟨hb, hji.1, by omega⟩]
        · rw [if_neg (fun q => hji q.2), if_neg (by omega)]
    · rw [if_neg hb, if_neg (fun q => hb q.1), if_neg (fun q => hb q.1)]
theorem cf_sgn {a b : Nat} (ha : a < 64) (hb : b < 64) : cd_c 56 [.int (nI a - nI b)] (cd_mm L w I J) = some (some (.int (zI (ce_sgn ((a : Int) - (b : Int))))), cd_mm L w I J) := by
  refine cd_c_of (l := [_]) rfl rfl (cd_s56_0 ?_)
  rw [cw_sub2, ← ce_sgnI (by omega) (by omega)]
  have e : (0 : Int32) = zI 0 := rfl
  by_cases h : (0 : Int) < (a : Int) - (b : Int)
  · rw [if_pos (show 0 < zI ((a : Int) - (b : Int)) by rw [e]; exact (zI_lt (by decide) (by decide) (by omega) (by omega)).mpr h), if_neg (show ¬ zI ((a : Int) - (b : Int)) < 0 by rw [e, zI_lt (by omega) (by omega) (by decide) (by decide)]; omega), if_pos (show 0 < zI ((a : Int) - (b : Int)) by rw [e]; exact (zI_lt (by decide) (by decide) (by omega) (by omega)).mpr h)]
  · rw [if_neg (show ¬ 0 < zI ((a : Int) - (b : Int)) by rw [e, zI_lt (by decide) (by decide) (by omega) (by omega)]; exact h)]
    by_cases h2 : (a : Int) - (b : Int) < 0
    · rw [if_pos (show zI ((a : Int) - (b : Int)) < 0 by rw [e]; exact (zI_lt (by omega) (by omega) (by decide) (by decide)).mpr h2), if_pos (show zI ((a : Int) - (b : Int)) < 0 by rw [e]; exact (zI_lt (by omega) (by omega) (by decide) (by decide)).mpr h2)]
    · rw [if_neg (show ¬ zI ((a : Int) - (b : Int)) < 0 by rw [e, zI_lt (by omega) (by omega) (by decide) (by decide)]; exact h2), if_neg (show ¬ zI ((a : Int) - (b : Int)) < 0 by rw [e, zI_lt (by omega) (by omega) (by decide) (by decide)]; exact h2), if_neg (show ¬ 0 < zI ((a : Int) - (b : Int)) by rw [e, zI_lt (by decide) (by decide) (by omega) (by omega)]; exact h)]
theorem cp_57 (hp : p = 66 ∨ p = 83) (hs : s = 22 ∨ s = 45) (hD : cd_okD D) (hS : cd_okS D S) (hP : cf_P D p I J) (hQ : cf_S D S s I) (hV : cf_V 14 (cf_H D S) I) {f : Nat} (hf : f + 12 ≤ 3072) : cw L w (cd_c 57 [.ref 6, .ref p, .ref s, .int (nI f)] (cd_mm L w I J)) (fun v I1 J1 => v = none ∧ J1 = J ∧ (∀ a j, ¬ ((9 ≤ a ∧ a ≤ 11) ∧ f ≤ j ∧ j < f + 12) → I1 a j = I a j) ∧ cf_wt D S f (D 0 1) 0 I1) := by
  have h3 := hD.1.2.1
  have h12 := hD.1.2.2.1
  have h8 := hD.1.1
  refine cw_c (l := [.ref 6, .ref p, .ref s, .int (nI f), .null, .null, .null, .null, .null]) (by rcases hp with rfl | rfl <;> rcases hs with rfl | rfl <;> rfl) (by rcases hp with rfl | rfl <;> rcases hs with rfl | rfl <;> rfl) ?_
  have e12 : nI f + 12 = nI (f + 12) := nI_add _ 12
  refine cw_m (fun _ => cd_s57_0 hp hs) ?_
  rw [e12]
  refine cw_cv (cw_mono (cp_55 (n := 3072) (by decide) (by omega) hf (fun _ _ => ⟨rfl, rfl⟩) rfl rfl) ?_)
  intro v I1 J1 ⟨hv, hJ, f1⟩
  have hJ := hJ.symm
  subst hJ
  refine ⟨hv, ?_⟩
  refine cw_m (fun _ => cd_s57_8 hp hs) ?_
  rw [e12]
  refine cw_cv (cw_mono (cp_55 (n := 3072) (by decide) (by omega) hf (fun _ _ => ⟨rfl, rfl⟩) rfl rfl) ?_)
  intro v I2 J2 ⟨hv, hJ, f2⟩
  have hJ := hJ.symm
  subst hJ
  refine ⟨hv, ?_⟩
  refine cw_m (fun _ => cd_s57_16 hp hs) ?_
  rw [e12]
  refine cw_cv (cw_mono (cp_55 (n := 3072) (by decide) (by omega) hf (fun _ _ => ⟨rfl, rfl⟩) rfl rfl) ?_)
  intro v I3 J3 ⟨hv, hJ, f3⟩
  have hJ := hJ.symm
  subst hJ
  refine ⟨hv, ?_⟩
  have g3 : ∀ a j, ¬ ((9 ≤ a ∧ a ≤ 11) ∧ f ≤ j ∧ j < f + 12) → I3 a j = I a j := fun a j h => by
    rw [f3, if_neg (by omega), f2, if_neg (by omega), f1, if_neg (by omega)]
  have W3 : cf_wt D S f 0 0 I3 := fun k hk => by
    rw [f3, if_neg (by omega), f2, if_neg (by omega), f1, if_pos ⟨rfl, by omega, by omega⟩, f3, if_neg (by omega), f2, if_pos ⟨rfl, by omega, by omega⟩, f3, if_pos ⟨rfl, by omega, by omega⟩]
    exact ⟨rfl, rfl, rfl⟩
  clear f1 f2 f3
  refine cw_m (fun _ => cd_s57_24 hp hs) ?_
  have go := cw_up (L := L) (w := w) (Q := fun v I1 J1 => v = none ∧ J1 = J ∧ (∀ a j, ¬ ((9 ≤ a ∧ a ≤ 11) ∧ f ≤ j ∧ j < f + 12) → I1 a j = I a j) ∧ cf_wt D S f (D 0 1) 0 I1) (fun i (y : (Nat → Nat → Int32) × Value × Value × Value × Value) => cd_go 57 26 [.ref 6, .ref p, .ref s, .int (nI f), .int (nI i), y.2.1, y.2.2.1, y.2.2.2.1, y.2.2.2.2] [] (cd_mm L w y.1 J)) (fun i y => (∀ a j, ¬ ((9 ≤ a ∧ a ≤ 11) ∧ f ≤ j ∧ j < f + 12) → y.1 a j = I a j) ∧ cf_wt D S f (i / 64) (i % 64) y.1) (64 * D 0 1) ?_ ?_ 0 (I3, .null, .null, .null, .null) (Nat.zero_le _) ⟨g3, W3⟩
  · exact go
  · intro ⟨I4, v5, v6, v7, v8⟩ ⟨g4, W4⟩
    replace g4 : ∀ a j, ¬ ((9 ≤ a ∧ a ≤ 11) ∧ f ≤ j ∧ j < f + 12) → I4 a j = I a j := g4
    replace W4 : cf_wt D S f (64 * D 0 1 / 64) (64 * D 0 1 % 64) I4 := W4
    rw [show 64 * D 0 1 / 64 = D 0 1 by omega, show 64 * D 0 1 % 64 = 0 by omega] at W4
    show cw L w (cd_go 57 26 _ _ (cd_mm L w I4 J)) _
    refine cw_m (fun _ => cd_s57_26 hp hs) ?_
    rw [g4 _ _ (by omega), hP.1.2.1, show (64 : Int32) = nI 64 from rfl, pk_mul, Nat.mul_comm, if_neg (fun h => Int32.lt_irrefl h)]
    exact cw_ret ⟨rfl, rfl, g4, W4⟩
  · intro i ⟨I4, v5, v6, v7, v8⟩ hi ⟨g4, W4⟩ K
    replace g4 : ∀ a j, ¬ ((9 ≤ a ∧ a ≤ 11) ∧ f ≤ j ∧ j < f + 12) → I4 a j = I a j := g4
    replace W4 : cf_wt D S f (i / 64) (i % 64) I4 := W4
    have hP4 := hP.of (I1 := I4) (J1 := J) (fun a k h1 h2 => g4 a k (by omega)) (fun _ => rfl)
    have hQ4 := hQ.of (I1 := I4) (fun a k h1 h2 => g4 a k (by omega))
    have hj : i / 64 < D 0 1 := by omega
    have hl : I4 16 i = cd_oi (cf_H D S (i / 64) (i % 64)).2 := by
      rw [g4 _ _ (by omega)]
      have := (hV (i / 64) (i % 64) (by omega) (by omega)).2
      rwa [show 64 * (i / 64) + i % 64 = i by omega] at this
    show cw L w (cd_go 57 26 _ _ (cd_mm L w I4 J)) _
    refine cw_m (fun _ => cd_s57_26 hp hs) ?_
    rw [hP4.1.2.1, show nI (D 0 1) * 64 = nI (64 * D 0 1) by rw [show (64 : Int32) = nI 64 from rfl, pk_mul, Nat.mul_comm], if_pos (nI_lt hi (by omega)), if_pos (cd_inN (by omega) (by decide)), nI_clamp (n := i) (by omega), hl, nI_1]
    cases hq : (cf_H D S (i / 64) (i % 64)).2 with
    | none =>
      rw [if_pos (show cd_oi none = -1 from rfl)]
      refine K (I4, _, _, _, _) ⟨g4, fun k hk => ?_⟩
      rw [cf_acc_s, cf_acc_s, cf_acc_s, cf_T_none hj hq, cf_T_none hj hq, cf_T_none hj hq, Int.add_zero, Int.add_zero, Int.add_zero]
      exact W4 k hk
    | some h =>
      have hh := cf_H_lt hq
      obtain ⟨d11, d12⟩ := hD.2.2.2 h hh
      have hpk := hS.1 _ d12
      obtain ⟨w9, w10, w11⟩ := W4 h (by omega)
      obtain ⟨c5, c6, c56, c7, c57, c8, c8', c9, c9'⟩ := hD.2.2.1 _ hj
      have b0 := cf_acc_b (S := S) hD (q := 0) (k := h) i (by omega)
      have b1 := cf_acc_b (S := S) hD (q := 1) (k := h) i (by omega)
      have b2 := cf_acc_b (S := S) hD (q := 2) (k := h) i (by omega)
      have q64 : nI i / 64 = nI (i / 64) := by rw [show (64 : Int32) = nI 64 from rfl]; exact pk_div (by omega) (by decide) (by decide)
      have r64 : nI i - nI (i / 64) * 64 = nI (i % 64) := by rw [← q64, show (64 : Int32) = nI 64 from rfl]; exact pk_rem (by omega) (by decide) (by decide)
      have q8 : ∀ m, m < 64 → nI m / 8 = nI (m / 8) := fun m hm => by rw [show (8 : Int32) = nI 8 from rfl]; exact pk_div (by omega) (by decide) (by decide)
      have r8 : ∀ m, m < 64 → nI m - nI m / 8 * 8 = nI (m % 8) := fun m hm => by rw [show (8 : Int32) = nI 8 from rfl]; exact pk_rem (by omega) (by decide) (by decide)
      rw [show cd_oi (some h) = nI h from rfl, if_neg (show ¬ nI h = -1 from fun e => by
        rw [show (-1 : Int32) = zI (-1) from rfl, ← zI_n, zI_eq (by omega) (by omega) (by decide) (by decide)] at e
        omega), q64, r64, if_pos (cd_inN (by omega) (by decide)), if_pos (cd_inN (by omega) (by decide)), nI_clamp (n := h) (by omega), (hP4.2.2.2 h hh).2, if_pos (cd_inN (by omega) (by decide)), nI_add, if_pos (cd_inN (by omega) (by decide)), nI_clamp (n := D 12 h) (by omega), hQ4.2.1 _ d12, nI_clamp (n := i / 64) (by omega), (hP4.2.2.1 _ hj).2.2.2.1, nI_clamp (n := f + h) (by omega), q8 _ (by omega), q8 _ hpk, cf_sgn (by omega) (by omega), cw_bi]
      refine cw_m (fun _ => cd_s57_76 hp hs) ?_
      rw [if_pos (cd_inN (by omega) (by decide)), nI_add, if_pos (cd_inN (by omega) (by decide)), nI_clamp (n := f + h) (by omega), r8 _ (by omega), r8 _ hpk, cf_sgn (by omega) (by omega), cw_bi]
      refine cw_m (fun _ => cd_s57_95 hp hs) ?_
      rw [nI_add, if_pos (cd_inN (by omega) (by decide)), if_pos (cd_inN (by omega) (by decide)), if_pos (cd_inN (by omega) (by decide)), nI_clamp (n := f + h) (by omega), cd_up_a (by decide), cd_up_a (by decide), cd_up_a (by decide), w9, w10, w11, nI_1]
      have f5 : ∀ (x y u : Int32) a j, ¬ ((9 ≤ a ∧ a ≤ 11) ∧ j = f + h) → cd_up (cd_up (cd_up I4 9 (f + h) x) 10 (f + h) y) 11 (f + h) u a j = I4 a j := fun x y u a j hn => by
        rw [cd_up_k2 (by omega), cd_up_k2 (by omega), cd_up_k2 (by omega)]
      have key : ∀ x y u : Int32, x = zI (ce_acc D S 0 h (i / 64) (i % 64) + ce_g D S 0 (i / 64) (i % 64) h) → y = zI (ce_acc D S 1 h (i / 64) (i % 64) + ce_g D S 1 (i / 64) (i % 64) h) → u = zI (ce_acc D S 2 h (i / 64) (i % 64) + ce_g D S 2 (i / 64) (i % 64) h) → cf_wt D S f ((i + 1) / 64) ((i + 1) % 64) (cd_up (cd_up (cd_up I4 9 (f + h) x) 10 (f + h) y) 11 (f + h) u) := fun x y u hx hy hu k hk => by
        rw [cf_acc_s, cf_acc_s, cf_acc_s, cf_T_some hj hq, cf_T_some hj hq, cf_T_some hj hq]
        by_cases hkh : k = h
        · subst hkh
          rw [if_pos rfl, if_pos rfl, if_pos rfl, cd_up_a (by decide), cd_up_a (by decide), cd_up_s, cd_up_a (by decide), cd_up_s, cd_up_s]
          exact ⟨hx, hy, hu⟩
        · rw [if_neg hkh, if_neg hkh, if_neg hkh, f5 _ _ _ _ _ (by omega), f5 _ _ _ _ _ (by omega), f5 _ _ _ _ _ (by omega), Int.add_zero, Int.add_zero, Int.add_zero]
          exact W4 k hk
      refine K (_, _, _, _, _) ⟨fun a j hn => (f5 _ _ _ a j (by omega)).trans (g4 a j hn), key _ _ _ ?_ ?_ ?_⟩
      · rw [← zI_n, zI_mul, zI_add]
        rfl
      · rw [← zI_n, zI_mul, zI_add]
        rfl
      · rw [← zI_n, zI_add]
        rfl
end CFU
