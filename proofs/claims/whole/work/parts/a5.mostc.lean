/-! ===== the class: most ===== -/
theorem cf_cnt_rev {P : Nat → Bool} : ∀ n, fa_cnt P n = fa_cnt (fun k => P (n - 1 - k)) n := by
  intro n
  induction n with
  | zero => rfl
  | succ n ih =>
    have e := cb_cnt_add (fun k => P (n + 1 - 1 - k)) 1 n
    rw [show n + 1 = 1 + n by omega, show (fun k => P (1 + n - 1 - k)) = (fun k => P (n + 1 - 1 - k)) from funext fun k => by rw [show 1 + n - 1 - k = n + 1 - 1 - k by omega], e, show 1 + n = n + 1 by omega, ce_cnt_s, ih, ce_cnt_eq (n := n) (p := fun k => P (n + 1 - 1 - (1 + k))) (q := fun k => P (n - 1 - k)) (fun k _ => by
      show P (n + 1 - 1 - (1 + k)) = P (n - 1 - k)
      rw [show n + 1 - 1 - (1 + k) = n - 1 - k by omega])]
    have e1 : fa_cnt (fun k => P (n + 1 - 1 - k)) 1 = if P n then 1 else 0 := by
      rw [show 1 = 0 + 1 from rfl, ce_cnt_s, show n + (0 + 1) - 1 - 0 = n by omega]
      show 0 + _ = _
      rw [Nat.zero_add]
    rw [e1, Nat.add_comm]
theorem cf_rm_geo {D : cd_D} {S S2 : cd_S} (hD : cd_okD D) (h : ce_geo D S S2) (x : Nat) : ce_rm D S x = ce_rm D S2 x := funext fun c => by
  unfold ce_rm
  rw [h.height hD, h.thAt]
theorem cf_hb_eqS {D : cd_D} {S T : cd_S} {row base : Nat} (hD : cd_okD D) (h1 : ∀ t, t < D 0 0 → S 1 t = T 1 t) (h2 : S 0 1 = T 0 1) : ce_eqS D (ce_hb D S row base) (ce_hb D T row base) := by
  refine ⟨⟨fun t ht => h1 t ht, h2, ?_⟩, fun k _ => ⟨rfl, rfl⟩⟩
  show ce_msk (fun j => cd_und D (D 11 j) (S 1 (D 12 j))) (D 0 2) = ce_msk (fun j => cd_und D (D 11 j) (T 1 (D 12 j))) (D 0 2)
  refine ce_msk_cong _ (fun k hk => ?_)
  rw [h1 _ (hD.2.2.2 k hk).2]
theorem cf_mo_eq {D : cd_D} {S T : cd_S} (hD : cd_okD D) (h1 : ∀ t, t < D 0 0 → S 1 t = T 1 t) (h2 : S 0 1 = T 0 1) (h p q : Nat) : ∀ n, ce_mo D S h p q n = ce_mo D T h p q n := by
  intro n
  induction n with
  | zero => rfl
  | succ n ih =>
    have e := (ce_run_eqS hD 60 none 0 (cf_hb_eqS (row := n) (base := 3) hD h1 h2)).2
    show (if ce_fits D (ce_hb D S n 3) p q && decide ((ce_mo D S h p q n).1 < (ce_gs (ce_rm D (ce_run D 60 (ce_hb D S n 3) none 0).2 h) : Int)) then ((ce_gs (ce_rm D (ce_run D 60 (ce_hb D S n 3) none 0).2 h) : Int), n) else ce_mo D S h p q n) = (if ce_fits D (ce_hb D T n 3) p q && decide ((ce_mo D T h p q n).1 < (ce_gs (ce_rm D (ce_run D 60 (ce_hb D T n 3) none 0).2 h) : Int)) then ((ce_gs (ce_rm D (ce_run D 60 (ce_hb D T n 3) none 0).2 h) : Int), n) else ce_mo D T h p q n)
    rw [ih, cf_rm_geo hD e.1]
    rfl
theorem cf_fits0 {D : cd_D} {S : cd_S} {p q : Nat} : ce_fits D (ce_hb D S 0 3) p q = true := by
  have z : ∀ j, fa_cnt (fun k => Nat.beq (ce_hb D S 0 3 2 k) (j + 1)) (D 0 2) = 0 := fun j => by
    have h : ∀ n, fa_cnt (fun k => Nat.beq (ce_hb D S 0 3 2 k) (j + 1)) n = 0 := by
      intro n
      induction n with
      | zero => rfl
      | succ n ih =>
        rw [ce_cnt_s, ih, ce_hb2, Nat.zero_div, Nat.zero_mod]
        rfl
    exact h _
  unfold ce_fits
  rw [z 0, z 1, decide_eq_true (Nat.zero_le _), decide_eq_true (Nat.zero_le _)]
  rfl
theorem cf_mo_b {D : cd_D} {S : cd_S} {h p q : Nat} : ∀ n, -1 ≤ (ce_mo D S h p q n).1 ∧ (ce_mo D S h p q n).1 ≤ 64 ∧ (ce_mo D S h p q n).2 ≤ n := by
  intro n
  induction n with
  | zero => exact ⟨Int.le_refl _, by show (-1 : Int) ≤ 64; omega, Nat.le_refl _⟩
  | succ n ih =>
    have hg := ce_gs_b (P := ce_rm D (ce_run D 60 (ce_hb D S n 3) none 0).2 h)
    show -1 ≤ (if ce_fits D (ce_hb D S n 3) p q && decide ((ce_mo D S h p q n).1 < (ce_gs (ce_rm D (ce_run D 60 (ce_hb D S n 3) none 0).2 h) : Int)) then ((ce_gs (ce_rm D (ce_run D 60 (ce_hb D S n 3) none 0).2 h) : Int), n) else ce_mo D S h p q n).1 ∧ (if ce_fits D (ce_hb D S n 3) p q && decide ((ce_mo D S h p q n).1 < (ce_gs (ce_rm D (ce_run D 60 (ce_hb D S n 3) none 0).2 h) : Int)) then ((ce_gs (ce_rm D (ce_run D 60 (ce_hb D S n 3) none 0).2 h) : Int), n) else ce_mo D S h p q n).1 ≤ 64 ∧ (if ce_fits D (ce_hb D S n 3) p q && decide ((ce_mo D S h p q n).1 < (ce_gs (ce_rm D (ce_run D 60 (ce_hb D S n 3) none 0).2 h) : Int)) then ((ce_gs (ce_rm D (ce_run D 60 (ce_hb D S n 3) none 0).2 h) : Int), n) else ce_mo D S h p q n).2 ≤ n + 1
    split
    · exact ⟨by show (-1 : Int) ≤ ((ce_gs _ : Nat) : Int); omega, by show ((ce_gs _ : Nat) : Int) ≤ 64; omega, by show n ≤ n + 1; omega⟩
    · exact ⟨ih.1, ih.2.1, by omega⟩
theorem cf_mo_1 {D : cd_D} {S : cd_S} {h p q : Nat} : ∀ n, 0 ≤ (ce_mo D S h p q (n + 1)).1 := by
  intro n
  induction n with
  | zero =>
    show 0 ≤ (if ce_fits D (ce_hb D S 0 3) p q && decide ((-1 : Int) < (ce_gs (ce_rm D (ce_run D 60 (ce_hb D S 0 3) none 0).2 h) : Int)) then ((ce_gs (ce_rm D (ce_run D 60 (ce_hb D S 0 3) none 0).2 h) : Int), 0) else ((-1 : Int), 0)).1
    rw [cf_fits0, Bool.true_and, if_pos (decide_eq_true (by omega))]
    show (0 : Int) ≤ ((ce_gs _ : Nat) : Int)
    omega
  | succ n ih =>
    show 0 ≤ (if ce_fits D (ce_hb D S (n + 1) 3) p q && decide ((ce_mo D S h p q (n + 1)).1 < (ce_gs (ce_rm D (ce_run D 60 (ce_hb D S (n + 1) 3) none 0).2 h) : Int)) then ((ce_gs (ce_rm D (ce_run D 60 (ce_hb D S (n + 1) 3) none 0).2 h) : Int), n + 1) else ce_mo D S h p q (n + 1)).1
    split
    · show (0 : Int) ≤ ((ce_gs _ : Nat) : Int)
      omega
    · exact ih
section CGS
variable {L : Nat} {w : Bool} {I : Nat → Nat → Int32} {J : Nat → Nat → Int64} {D : cd_D} {S : cd_S}
variable {Y : ce_Y} {p s z : Nat}
theorem cp_106 {q row n : Nat} (hq : q < 2 ^ 20) (hr : row < 2 ^ 20) (hn : n < 2 ^ 20) : cd_c 106 [.int (nI q), .int (nI row), .int (nI n)] (cd_mm L w I J) = some (some (.int (nI (fa_cnt (fun k => Nat.beq (row / 3 ^ (n - 1 - k) % 3) q) n))), cd_mm L w I J) := by
  refine cw_eq (cw_c (l := [_, _, _, _, _, _]) rfl rfl ?_)
  refine cw_m (fun _ => cd_s106_0) ?_
  rw [← cf_cnt_rev (P := fun j => Nat.beq (row / 3 ^ j % 3) q) n]
  have go := cw_up (L := L) (w := w) (Q := fun v2 I2 J2 => v2 = some (.int (nI (fa_cnt (fun j => Nat.beq (row / 3 ^ j % 3) q) n))) ∧ I2 = I ∧ J2 = J) (fun i (_ : Unit) => cd_go 106 6 [.int (nI q), .int (nI row), .int (nI n), .int (nI (fa_cnt (fun j => Nat.beq (row / 3 ^ j % 3) q) i)), .int (nI (row / 3 ^ i)), .int (nI i)] [] (cd_mm L w I J)) (fun _ _ => True) n ?_ ?_ 0 () (Nat.zero_le _) trivial
  · rw [Nat.pow_zero, Nat.div_one] at go
    exact go
  · intro _ _
    refine cw_m (fun _ => cd_s106_6) ?_
    rw [if_neg (fun h => Int32.lt_irrefl h)]
    exact cw_ret ⟨rfl, rfl, rfl⟩
  · intro i _ hi _ K
    have hlt : row / 3 ^ i < 2 ^ 20 := Nat.lt_of_le_of_lt (Nat.div_le_self _ _) hr
    have hK := K () trivial
    rw [ce_cnt_s, Nat.pow_succ, ← Nat.div_div_eq_div_mul] at hK
    refine cw_m (fun _ => cd_s106_6) ?_
    generalize row / 3 ^ i = m at *
    have hrem : nI m - nI m / 3 * 3 = nI (m % 3) := by rw [show (3 : Int32) = nI 3 from rfl]; exact pk_rem (by omega) (by decide) (by decide)
    have hdiv : nI m / 3 = nI (m / 3) := by rw [show (3 : Int32) = nI 3 from rfl]; exact pk_div (by omega) (by decide) (by decide)
    have hm3 : m % 3 < 3 := Nat.mod_lt _ (by decide)
    rw [if_pos (nI_lt hi (by omega)), hrem, hdiv, nI_1, nI_1, show ∀ x : Int32, x + 0 = x from Int32.add_zero]
    by_cases he : m % 3 = q
    · rw [if_pos (by rw [he])]
      rw [he, Nat.beq_refl] at hK
      exact hK
    · rw [if_neg (fun h => he ((nI_eq (by omega) (by omega)).mp h))]
      rw [cw_beqf he] at hK
      exact hK
theorem cp_111 {row k n : Nat} (hr : row < 2 ^ 20) (hk : k < n) (hn : n < 2 ^ 20) : cd_c 111 [.int (nI row), .int (nI k), .int (nI n)] (cd_mm L w I J) = some (some (.int (nI (row / 3 ^ (n - 1 - k) % 3))), cd_mm L w I J) := by
  refine cw_eq (cw_c (l := [_, _, _, _, _]) rfl rfl ?_)
  refine cw_m (fun _ => cd_s111_0) ?_
  have go := cw_up (L := L) (w := w) (Q := fun v2 I2 J2 => v2 = some (.int (nI (row / 3 ^ (n - 1 - k) % 3))) ∧ I2 = I ∧ J2 = J) (fun i (_ : Unit) => cd_go 111 6 [.int (nI row), .int (nI k), .int (nI n), .int (nI (row / 3 ^ i)), .int (nI (n - 1 - i))] [] (cd_mm L w I J)) (fun _ _ => True) (n - 1 - k) ?_ ?_ 0 () (Nat.zero_le _) trivial
  · rw [Nat.pow_zero, Nat.div_one] at go
    rw [show (1 : Int32) = nI 1 from rfl, cw_subc (by omega)]
    exact go
  · intro _ _
    have hlt : row / 3 ^ (n - 1 - k) < 2 ^ 20 := Nat.lt_of_le_of_lt (Nat.div_le_self _ _) hr
    refine cw_m (fun _ => cd_s111_6) ?_
    rw [show n - 1 - (n - 1 - k) = k by omega, if_neg (fun h => Int32.lt_irrefl h)]
    have hrem : nI (row / 3 ^ (n - 1 - k)) - nI (row / 3 ^ (n - 1 - k)) / 3 * 3 = nI (row / 3 ^ (n - 1 - k) % 3) := by rw [show (3 : Int32) = nI 3 from rfl]; exact pk_rem (by omega) (by decide) (by decide)
    rw [hrem]
    exact cw_ret ⟨rfl, rfl, rfl⟩
  · intro i _ hi _ K
    have hlt : row / 3 ^ i < 2 ^ 20 := Nat.lt_of_le_of_lt (Nat.div_le_self _ _) hr
    have hK := K () trivial
    rw [Nat.pow_succ, ← Nat.div_div_eq_div_mul] at hK
    refine cw_m (fun _ => cd_s111_6) ?_
    rw [if_pos (nI_lt (show k < n - 1 - i by omega) (by omega)), show nI (row / 3 ^ i) / 3 = nI (row / 3 ^ i / 3) from by rw [show (3 : Int32) = nI 3 from rfl]; exact pk_div (by omega) (by decide) (by decide), show nI (n - 1 - i) + (-1) = nI (n - 1 - (i + 1)) by
      rw [show n - 1 - (i + 1) = n - 1 - i - 1 by omega]
      exact cw_m1a (by omega)]
    exact hK
/-- the greatest room's cells of a state, remembered -/
theorem cp_109 (hp : p = 66 ∨ p = 83) (hs : s = 22 ∨ s = 45) (hD : cd_okD D) (hS : cd_okS D S) (hj : ce_inj D S) (hP : cf_P D p I J) (hQ : cf_S D S s I) (hC : cf_C D (cf_R D) I J) {h : Nat} (h1 : 1 ≤ h) (h2 : h ≤ 20) : cw L w (cd_c 109 [.ref 6, .ref p, .ref s, .int (nI h)] (cd_mm L w I J)) (fun v I1 J1 => v = some (.int (nI (ce_gs (ce_rm D S h)))) ∧ (∀ a j, a ≠ 7 → J1 a j = J a j) ∧ (∀ a j, ¬ (8 ≤ a ∧ a ≤ 13 ∨ 15 ≤ a ∧ a ≤ 17) → I1 a j = I a j) ∧ cf_C D (cf_R D) I1 J1) := by
  have h12 := hD.1.2.2.1
  have hl2 : S 0 2 < 4096 := Nat.lt_of_lt_of_le hS.2.2.1 (Nat.le_trans (Nat.pow_le_pow_right (by decide) h12) (by decide))
  have kl : ∀ T : cd_S, cd_okS D T → cf_key T (D 0 0) < 2 ^ 56 := fun T hT => Nat.lt_of_lt_of_le (cf_key_lt (D 0 0) hT.1) (by
    have h8 := hD.1.1
    rw [show (128 : Nat) = 2 ^ 7 from rfl, ← Nat.pow_mul]
    exact Nat.pow_le_pow_right (by decide) (by omega))
  refine cw_c (l := [.ref 6, .ref p, .ref s, .int (nI h), .null]) (by rcases hp with rfl | rfl <;> rcases hs with rfl | rfl <;> rfl) (by rcases hp with rfl | rfl <;> rcases hs with rfl | rfl <;> rfl) ?_
  refine cw_m (fun _ => cd_s109_0 hp hs) ?_
  refine cw_ci (cw_mono (cp_58 hp hs hD hS hj hP hQ hC) ?_)
  intro v I1 J1 ⟨k, hk, hv, fJ, f1, C1, W1, g8, g7⟩
  refine ⟨_, hv, ?_⟩
  have hin : cd_in (nI k) 256 = true := cd_inN hk (by decide)
  obtain ⟨T, t1, t2, t3, t4, t5, t6⟩ : ∃ T, cd_okS D T ∧ ce_inj D T ∧ I1 8 k = nI (T 0 2) ∧ J1 7 k = lN (cf_key T (D 0 0)) ∧ cf_wq D T (12 * k) I1 ∧ (I1 12 k = nI 0 ∨ ∃ h, 1 ≤ h ∧ h ≤ 20 ∧ I1 12 k = nI h ∧ I1 13 k = cf_R D T h) := by
    rcases C1 k hk with q | q
    · rw [g8, show (-1 : Int32) = zI (-1) from rfl, ← zI_n, zI_eq (by omega) (by omega) (by decide) (by decide)] at q
      omega
    · exact q
  have hT2 : T 0 2 < 4096 := Nat.lt_of_lt_of_le t1.2.2.1 (Nat.le_trans (Nat.pow_le_pow_right (by decide) h12) (by decide))
  have e1 : T 0 2 = S 0 2 := (nI_eq (by omega) (by omega)).mp (t3.symm.trans g8)
  have k1 := kl T t1
  have k2 := kl S hS
  have e2 : cf_key T (D 0 0) = cf_key S (D 0 0) := (ce_lNeq (by omega) (by omega)).mp (t4.symm.trans g7)
  have geo := cf_geo hS t1 e2 e1
  have hR : ∀ x, cf_R D T x = nI (ce_gs (ce_rm D S x)) := fun x => by
    unfold cf_R
    rw [cf_rm_geo hD geo]
  have hP1 := hP.of (I1 := I1) (J1 := J1) (fun a k h1 h2 => f1 a k (by omega)) (fun j => fJ _ _ (by omega))
  have hQ1 := hQ.of (I1 := I1) (fun a k h1 h2 => f1 a k (by omega))
  refine cw_m (fun _ => cd_s109_4 hp hs) ?_
  rw [if_pos hin, if_pos hin, nI_clamp (by omega)]
  refine cw_if (fun q => ?_) (fun q => ?_)
  · have : I1 13 k = nI (ce_gs (ce_rm D S h)) := by
      rcases t6 with g | ⟨x, x1, x2, x3, x4⟩
      · rw [q] at g
        have := (nI_eq (by omega) (by omega)).mp g
        omega
      · rw [q] at x3
        have hx := (nI_eq (by omega) (by omega)).mp x3
        rw [x4, ← hx, hR]
    rw [this]
    exact cw_ret ⟨rfl, fJ, fun a j h => f1 a j (by omega), C1⟩
  · refine cw_cv (cw_mono (cp_53 hp hs (Or.inl rfl) hD hS hj hP1 hQ1) ?_)
    intro v I2 J2 ⟨hv, hJ2, f2, V2⟩
    have hJ2 := hJ2.symm
    subst hJ2
    refine ⟨hv, ?_⟩
    refine cw_m (fun _ => cd_s109_16 hp hs) ?_
    rw [cp_90 hp hs (Or.inl rfl) hD hS (hP1.of (I1 := I2) (J1 := J1) (fun a k h1 h2 => f2 a k (by omega)) (fun _ => rfl)) (hQ1.of (I1 := I2) (fun a k h1 h2 => f2 a k (by omega))) V2 h1 h2, cw_bl]
    refine cw_m (fun _ => cd_s109_25 hp hs) ?_
    rw [cp_94, cw_bl]
    refine cw_m (fun _ => cd_s109_26 hp hs) ?_
    rw [cp_93m, cw_bi, cf_bo_gs]
    refine cw_m (fun _ => cd_s109_27 hp hs) ?_
    rw [if_pos hin, if_pos hin, if_pos hin, nI_clamp (by omega), cd_up_a (show (13 : Nat) ≠ 12 by decide), cd_up_s]
    have r : ∀ a j, ¬ ((a = 12 ∨ a = 13) ∧ j = k) → cd_up (cd_up I2 13 k (nI (ce_gs (ce_rm D S h)))) 12 k (nI h) a j = I2 a j := fun a j hn => by rw [cd_up_k2 (by omega), cd_up_k2 (by omega)]
    refine cw_ret ⟨rfl, fJ, fun a j hn => ?_, fun i hi => ?_⟩
    · rw [r a j (by omega), f2 a j (by omega), f1 a j (by omega)]
    · have c8 : ∀ a j, 8 ≤ a → a ≤ 11 → cd_up (cd_up I2 13 k (nI (ce_gs (ce_rm D S h)))) 12 k (nI h) a j = I1 a j := fun a j h3 h4 => by rw [r a j (by omega), f2 a j (by omega)]
      by_cases hik : i = k
      · subst hik
        refine Or.inr ⟨T, t1, t2, (c8 8 _ (by decide) (by decide)).trans t3, t4, fun j hj => ?_, Or.inr ⟨h, h1, h2, cd_up_s, ?_⟩⟩
        · rw [c8 9 _ (by decide) (by decide), c8 10 _ (by decide) (by decide), c8 11 _ (by decide) (by decide)]
          exact t5 j hj
        · rw [cd_up_a (by decide), cd_up_s, hR]
      · rcases C1 i hi with q | ⟨U, u1, u2, u3, u4, u5, u6⟩
        · exact Or.inl ((c8 8 _ (by decide) (by decide)).trans q)
        · refine Or.inr ⟨U, u1, u2, (c8 8 _ (by decide) (by decide)).trans u3, u4, fun j hj => ?_, ?_⟩
          · rw [c8 9 _ (by decide) (by decide), c8 10 _ (by decide) (by decide), c8 11 _ (by decide) (by decide)]
            exact u5 j hj
          · rw [r 12 i (by omega), r 13 i (by omega), f2 12 i (by omega), f2 13 i (by omega)]
            exact u6
end CGS
