/-! ===== the class: heights, what gives, rests ===== -/
def cf_hi (D : cd_D) (S : cd_S) (c : Nat) : Nat → Int
  | 0 => -1
  | n + 1 => if cf_hi D S c n < (cf_H D S n c).1 then (cf_H D S n c).1 else cf_hi D S c n
theorem cf_hi_ge {D : cd_D} {S : cd_S} {c : Nat} : ∀ n, -1 ≤ cf_hi D S c n := by
  intro n
  induction n with
  | zero => exact Int.le_refl _
  | succ n ih =>
    unfold cf_hi
    split
    · omega
    · exact ih
theorem cf_hi_eq {D : cd_D} {S : cd_S} {c : Nat} : ∀ n, n ≤ D 0 1 → cf_hi D S c n = cd_hi D S c n := by
  intro n
  induction n with
  | zero => intro _; rfl
  | succ n ih =>
    intro hn
    have e : (cf_H D S n c).1 = if cd_und D n c then cd_hangs D S n c else -1 := by
      unfold cf_H
      rw [decide_eq_true (show n < D 0 1 by omega), Bool.true_and]
      split <;> rfl
    unfold cf_hi cd_hi
    rw [e, ih (by omega)]
theorem cf_hi_up {D : cd_D} {S : cd_S} {c : Nat} : ∀ d, cf_hi D S c (D 0 1 + d) = cf_hi D S c (D 0 1) := by
  intro d
  induction d with
  | zero => rfl
  | succ d ih =>
    have e : (cf_H D S (D 0 1 + d) c).1 = -1 := by
      unfold cf_H
      rw [decide_eq_false (show ¬ D 0 1 + d < D 0 1 by omega), Bool.false_and]
      rfl
    have := cf_hi_ge (D := D) (S := S) (c := c) (D 0 1 + d)
    show (if cf_hi D S c (D 0 1 + d) < (cf_H D S (D 0 1 + d) c).1 then (cf_H D S (D 0 1 + d) c).1 else cf_hi D S c (D 0 1 + d)) = _
    rw [e, if_neg (by omega), ih]
theorem cf_hi_3 {D : cd_D} {S : cd_S} (hD : cd_okD D) {c : Nat} : cf_hi D S c 3 = cd_height D S c := by
  have := hD.1.2.1
  have e := cf_hi_up (D := D) (S := S) (c := c) (3 - D 0 1)
  rw [show D 0 1 + (3 - D 0 1) = 3 by omega] at e
  rw [e, cf_hi_eq _ (Nat.le_refl _)]
  rfl
theorem cf_hi_b {D : cd_D} {S : cd_S} (hD : cd_okD D) (hS : cd_okS D S) {c : Nat} (hc : c < 64) : ∀ n, n ≤ 3 → -200 ≤ cf_hi D S c n ∧ cf_hi D S c n ≤ 200 := by
  intro n
  induction n with
  | zero => intro _; exact ⟨by show (-200 : Int) ≤ -1; omega, by show (-1 : Int) ≤ 200; omega⟩
  | succ n ih =>
    intro hn
    have h1 := ih (by omega)
    have h2 : -200 ≤ (cf_H D S n c).1 ∧ (cf_H D S n c).1 ≤ 200 := by
      rw [cf_F_H]
      have := cf_F_b (n := D 0 1) hD hS (Nat.le_refl _) n c (by omega) hc
      exact ⟨this.1, this.2.1⟩
    unfold cf_hi
    split
    · exact h2
    · exact h1
theorem cf_ix_f {x : Int32} {n : Nat} (hn : n < 2 ^ 31) (h : ce_ix x n = false) : x < 0 ∨ ¬ x < nI n := by
  by_cases h0 : x < 0
  · exact Or.inl h0
  · refine Or.inr (fun h1 => ?_)
    have := cf_lt_ix (x := x) hn
    rw [if_neg h0, if_pos h1, h] at this
    exact absurd this (by decide)
section CGG
variable {L : Nat} {w : Bool} {I : Nat → Nat → Int32} {J : Nat → Nat → Int64} {D : cd_D} {S : cd_S}
variable {Y : ce_Y} {z : Nat}
theorem cp_72 (hz : z = 14 ∨ z = 38) (hD : cd_okD D) (hS : cd_okS D S) (hV : cf_V z (cf_H D S) I) {c : Nat} (hc : c < 64) : cd_c 72 [.ref z, .int (nI c)] (cd_mm L w I J) = some (some (.int (zI (cd_height D S c))), cd_mm L w I J) := by
  refine cw_eq (cw_c (l := [.ref z, .int (nI c), .null, .null]) (by rcases hz with rfl | rfl <;> rfl) (by rcases hz with rfl | rfl <;> rfl) ?_)
  refine cw_m (fun _ => cd_s72_0 hz) ?_
  have go := cw_up (L := L) (w := w) (Q := fun v2 I2 J2 => v2 = some (.int (zI (cd_height D S c))) ∧ I2 = I ∧ J2 = J) (fun i (_ : Unit) => cd_go 72 4 [.ref z, .int (nI c), .int (zI (cf_hi D S c i)), .int (nI (64 * i + c))] [] (cd_mm L w I J)) (fun _ _ => True) 3 ?_ ?_ 0 () (by decide) trivial
  · rw [show 64 * 0 + c = c by omega] at go
    exact go
  · intro _ _
    refine cw_m (fun _ => cd_s72_4 hz) ?_
    rw [if_neg (fun q => by
      have := (nI_ltI (b := 192) (by omega) (by decide)).mp q
      omega), cf_hi_3 hD]
    exact cw_ret ⟨rfl, rfl, rfl⟩
  · intro i _ hi _ K
    have b1 := cf_hi_b hD hS hc i (by omega)
    have b2 : -200 ≤ (cf_H D S i c).1 ∧ (cf_H D S i c).1 ≤ 200 := by
      rw [cf_F_H]
      have := cf_F_b (n := D 0 1) hD hS (Nat.le_refl _) i c (by omega) hc
      exact ⟨this.1, this.2.1⟩
    refine cw_m (fun _ => cd_s72_4 hz) ?_
    rw [if_pos (show nI (64 * i + c) < 192 from nI_lt (b := 192) (by omega) (by decide)), if_pos (cd_inN (by omega) (by decide)), nI_clamp (by omega), (hV i c hi hc).1, show nI (64 * i + c) + 64 = nI (64 * (i + 1) + c) by
      rw [show (64 : Int32) = nI 64 from rfl, nI_add]
      congr 1
      omega]
    have e : (if zI (cf_hi D S c i) < zI (cf_H D S i c).1 then zI (cf_H D S i c).1 else zI (cf_hi D S c i)) = zI (cf_hi D S c (i + 1)) := by
      show _ = zI (if cf_hi D S c i < (cf_H D S i c).1 then (cf_H D S i c).1 else cf_hi D S c i)
      by_cases h : cf_hi D S c i < (cf_H D S i c).1
      · rw [if_pos h, if_pos ((zI_lt (by omega) (by omega) (by omega) (by omega)).mpr h)]
      · rw [if_neg h, if_neg (fun q => h ((zI_lt (by omega) (by omega) (by omega) (by omega)).mp q))]
    rw [e]
    exact K () trivial
theorem cp_73n (hM : cf_M D S Y w I J) {x : Int32} (hx : ce_ix x 64 = false) : cw L w (cd_c 73 [.ref 2, .int x] (cd_mm L w I J)) (cf_post (.int (-1001)) D S Y w I) := by
  refine cw_c (l := [_, _]) rfl rfl ?_
  refine cw_m (fun _ => cd_s73_0) ?_
  rw [cp_69, cw_bi, hx]
  refine cw_m (fun _ => cd_s73_3) ?_
  rw [if_pos (show cd_tf false = 0 from rfl)]
  exact cw_ret ⟨rfl, hM, cf_fr.rf⟩
theorem cp_73 (hK : ce_ok D S Y) (hM : cf_M D S Y w I J) {c : Nat} (hc : c < 64) : cw L w (cd_c 73 [.ref 2, .int (nI c)] (cd_mm L w I J)) (cf_post (.int (zI (cd_height D S c))) D S Y w I) := by
  refine cw_c (l := [_, _]) rfl rfl ?_
  refine cw_m (fun _ => cd_s73_0) ?_
  rw [cp_69, cw_bi, ce_ix_n hc (by decide)]
  refine cw_m (fun _ => cd_s73_3) ?_
  rw [if_neg (show ¬ cd_tf true = 0 by decide)]
  refine cw_cv (cw_mono (cp_53p hK hM) ?_)
  intro v I1 J1 ⟨hv, M1, f1, V⟩
  refine ⟨hv, ?_⟩
  refine cw_m (fun _ => cd_s73_13) ?_
  rw [cp_72 (Or.inr rfl) hK.1 hK.2.1.1 V hc, cw_bi]
  refine cw_m (fun _ => cd_s73_17) ?_
  exact cw_ret ⟨rfl, M1, f1⟩
theorem cp_76n (hK : ce_ok D S Y) (hM : cf_M D S Y w I J) {x y : Int32} (hx : ce_ix x (D 0 2) = false) : cw L w (cd_c 76 [.ref 2, .int x, .int y] (cd_mm L w I J)) (cf_post (.int (-1001)) D S Y w I) := by
  refine cw_c (l := [_, _, _, _]) rfl rfl ?_
  refine cw_m (fun _ => cd_s76_0) ?_
  rw [cp_64 hM.1.1 hK.1, cw_bi, hx]
  refine cw_m (fun _ => cd_s76_3) ?_
  rw [if_pos (show cd_tf false = 0 from rfl)]
  exact cw_ret ⟨rfl, hM, cf_fr.rf⟩
theorem cp_76o (hK : ce_ok D S Y) (hM : cf_M D S Y w I J) {x y : Int32} (hx : ce_ix x (D 0 2) = true) (hy : ce_ix y 1000 = false) : cw L w (cd_c 76 [.ref 2, .int x, .int y] (cd_mm L w I J)) (cf_post (.int (-1002)) D S Y w I) := by
  refine cw_c (l := [_, _, _, _]) rfl rfl ?_
  refine cw_m (fun _ => cd_s76_0) ?_
  rw [cp_64 hM.1.1 hK.1, cw_bi, hx]
  refine cw_m (fun _ => cd_s76_3) ?_
  rw [if_neg (show ¬ cd_tf true = 0 by decide), cp_74, cw_bi, hy]
  refine cw_m (fun _ => cd_s76_8) ?_
  rw [if_pos (show cd_tf false = 0 from rfl)]
  exact cw_ret ⟨rfl, hM, cf_fr.rf⟩
theorem cp_76 (hK : ce_ok D S Y) (hM : cf_M D S Y w I J) {k b : Nat} (hk : k < D 0 2) (hb : b < 1000) : cw L w (cd_c 76 [.ref 2, .int (nI k), .int (nI b)] (cd_mm L w I J)) (cf_post (.int (if cd_held S k then cd_tf (ce_giv D S k (b : Int)) else -1003)) D S Y w I) := by
  have h12 := hK.1.1.2.2.1
  have hl2 : S 0 2 < 65536 := Nat.lt_of_lt_of_le hK.2.1.1.2.2.1 (Nat.le_trans (Nat.pow_le_pow_right (by decide) h12) (by decide))
  refine cw_c (l := [_, _, _, _]) rfl rfl ?_
  refine cw_m (fun _ => cd_s76_0) ?_
  rw [cp_64 hM.1.1 hK.1, cw_bi, ce_ix_n hk (by omega)]
  refine cw_m (fun _ => cd_s76_3) ?_
  rw [if_neg (show ¬ cd_tf true = 0 by decide), cp_74, cw_bi, ce_ix_n hb (by decide)]
  refine cw_m (fun _ => cd_s76_8) ?_
  rw [if_neg (show ¬ cd_tf true = 0 by decide), cp_59 (Or.inr rfl) hM.1.2.1.1.2 hl2 (by omega), cw_bi]
  refine cw_m (fun _ => cd_s76_15) ?_
  show cw L w (if cd_tf (cd_held S k) = 0 then _ else _) _
  cases cd_held S k with
  | false =>
    rw [if_pos (show cd_tf false = 0 from rfl), if_neg (by decide)]
    exact cw_ret ⟨rfl, hM, cf_fr.rf⟩
  | true =>
    rw [if_neg (show ¬ cd_tf true = 0 by decide), if_pos rfl]
    refine cw_ci (cw_mono (cp_58p hK hM) ?_)
    intro v I1 J1 ⟨i, hi, hv, M1, f1, W1⟩
    refine ⟨_, hv, ?_⟩
    refine cw_m (fun _ => cd_s76_26) ?_
    rw [cp_75 (cf_ple w) (Or.inr rfl) hK.1 hK.2.1.1 M1.1.1 M1.1.2.1 hi hk (by omega) W1, cw_bi]
    refine cw_m (fun _ => cd_s76_37) ?_
    cases ce_giv D S k (b : Int) with
    | false => rw [if_pos (show cd_tf false = 0 from rfl)]; exact cw_ret ⟨rfl, M1, f1⟩
    | true => rw [if_neg (show ¬ cd_tf true = 0 by decide)]; exact cw_ret ⟨rfl, M1, f1⟩
theorem cf_len (hK : ce_ok D S Y) (o : Option Nat) (b : Nat) {I1 : Nat → Nat → Int32} {J1 : Nat → Nat → Int64} (h : cf_M D (ce_run D 60 S o b).2 (ceSE Y (ce_run D 60 S o b).1) w I1 J1) : I1 42 2 = nI (ce_run D 60 S o b).1.length := h.1.2.2.2.1.2.2.2.1.1
theorem cp_83n (hK : ce_ok D S Y) (hM : cf_M D S Y w I J) {x y : Int32} (h1 : ¬ x = -1) (hx : ce_ix x (D 0 0) = false) : cw L w (cd_c 83 [.ref 2, .int x, .int y] (cd_mm L w I J)) (cf_post (.int (-1001)) D S Y w I) := by
  refine cw_c (l := [_, _, _]) rfl rfl ?_
  refine cw_m (fun _ => cd_s83_0) ?_
  rw [if_neg h1, cp_49 hM.1.1 hK.1, cw_bi, hx]
  refine cw_m (fun _ => cd_s83_6) ?_
  rw [if_pos (show cd_tf false = 0 from rfl)]
  exact cw_ret ⟨rfl, hM, cf_fr.rf⟩
theorem cp_83o (hK : ce_ok D S Y) (hM : cf_M D S Y w I J) {x y : Int32} (h1 : ¬ x = -1) (hx : ce_ix x (D 0 0) = true) (hy : ce_ix y 1000 = false) : cw L w (cd_c 83 [.ref 2, .int x, .int y] (cd_mm L w I J)) (cf_post (.int (-1002)) D S Y w I) := by
  refine cw_c (l := [_, _, _]) rfl rfl ?_
  refine cw_m (fun _ => cd_s83_0) ?_
  rw [if_neg h1, cp_49 hM.1.1 hK.1, cw_bi, hx]
  refine cw_m (fun _ => cd_s83_6) ?_
  rw [if_neg (show ¬ cd_tf true = 0 by decide)]
  refine cw_m (fun _ => cd_s83_9) ?_
  rw [if_neg h1, cp_74, cw_bi, hy]
  refine cw_m (fun _ => cd_s83_14) ?_
  rw [if_pos (show cd_tf false = 0 from rfl)]
  exact cw_ret ⟨rfl, hM, cf_fr.rf⟩
theorem cp_83m (hK : ce_ok D S Y) (hM : cf_M D S Y w I J) {y : Int32} : cw L w (cd_c 83 [.ref 2, .int (-1), .int y] (cd_mm L w I J)) (cf_post (.int (nI (ce_run D 60 S none 0).1.length)) D (ce_run D 60 S none 0).2 (ceSE Y (ce_run D 60 S none 0).1) w I) := by
  refine cw_c (l := [_, _, _]) rfl rfl ?_
  refine cw_m (fun _ => cd_s83_0) ?_
  rw [if_pos rfl]
  refine cw_m (fun _ => cd_s83_9) ?_
  rw [if_pos rfl, if_pos rfl]
  refine cw_cv (cw_mono (cp_82p (o := none) (b := 0) hK hM (fun u h => by cases h) (by decide)) ?_)
  intro v I1 J1 ⟨hv, M1, f1⟩
  refine ⟨hv, ?_⟩
  refine cw_m (fun _ => cd_s83_33) ?_
  rw [cf_len hK none 0 M1]
  exact cw_ret ⟨rfl, M1, f1⟩
theorem cp_83 (hK : ce_ok D S Y) (hM : cf_M D S Y w I J) {t b : Nat} (ht : t < D 0 0) (hb : b < 1000) : cw L w (cd_c 83 [.ref 2, .int (nI t), .int (nI b)] (cd_mm L w I J)) (cf_post (.int (nI (ce_run D 60 S (some t) b).1.length)) D (ce_run D 60 S (some t) b).2 (ceSE Y (ce_run D 60 S (some t) b).1) w I) := by
  have h8 := hK.1.1.1
  have h1 : ¬ nI t = -1 := fun q => by
    have : nI t < 0 := by rw [q]; decide
    exact nI_pos (by omega) this
  refine cw_c (l := [_, _, _]) rfl rfl ?_
  refine cw_m (fun _ => cd_s83_0) ?_
  rw [if_neg h1, cp_49 hM.1.1 hK.1, cw_bi, ce_ix_n ht (by omega)]
  refine cw_m (fun _ => cd_s83_6) ?_
  rw [if_neg (show ¬ cd_tf true = 0 by decide)]
  refine cw_m (fun _ => cd_s83_9) ?_
  rw [if_neg h1, cp_74, cw_bi, ce_ix_n hb (by decide)]
  refine cw_m (fun _ => cd_s83_14) ?_
  rw [if_neg (show ¬ cd_tf true = 0 by decide), if_neg h1]
  refine cw_cv (cw_mono (cp_82p (o := some t) (b := b) hK hM (fun u h => by cases h; omega) (by omega)) ?_)
  intro v I1 J1 ⟨hv, M1, f1⟩
  refine ⟨hv, ?_⟩
  refine cw_m (fun _ => cd_s83_33) ?_
  rw [cf_len hK (some t) b M1]
  exact cw_ret ⟨rfl, M1, f1⟩
theorem cp_84 (hK : ce_ok D S Y) (hM : cf_M D S Y w I J) {x y : Int32} : cw L w (cd_c 84 [.ref 2, .int x, .int y] (cd_mm L w I J)) (cf_post (.int (ce_evA Y x y)) D S Y w I) := by
  have h60 := hK.2.2.1.2.2.2.2
  have hL := hM.1.2.2.2.1.2.2.2.1
  refine cw_c (l := [_, _, _]) rfl rfl ?_
  refine cw_m (fun _ => cd_s84_0) ?_
  rw [hL.1]
  unfold ce_evA
  have inner : ∀ y : Int32, y = 0 ∨ y = 1 → cw L w (if x < 0 then some (some (.int (-1)), cd_mm L w I J) else if x < nI (ceE Y).length then (if y = 0 then (if cd_in x 60 = true then some (some (.int (I 43 x.toNatClampNeg)), cd_mm L w I J) else none) else if cd_in x 60 = true then some (some (.int (I 44 x.toNatClampNeg)), cd_mm L w I J) else none) else some (some (.int (-1)), cd_mm L w I J)) (cf_post (.int (if ce_ix x (ceE Y).length then (if y = nI 0 then nI ((ceE Y).getD x.toNatClampNeg (0, 0)).1 else nI ((ceE Y).getD x.toNatClampNeg (0, 0)).2) else -1)) D S Y w I) := fun y hy => by
    cases hx : ce_ix x (ceE Y).length with
    | false =>
      rw [if_neg (show ¬ false = true by decide)]
      rcases cf_ix_f (by omega) hx with h | h
      · rw [if_pos h]; exact cw_ret ⟨rfl, hM, cf_fr.rf⟩
      · by_cases h0 : x < 0
        · rw [if_pos h0]; exact cw_ret ⟨rfl, hM, cf_fr.rf⟩
        · rw [if_neg h0, if_neg h]; exact cw_ret ⟨rfl, hM, cf_fr.rf⟩
    | true =>
      obtain ⟨i, hi, rfl⟩ := ce_ix_t hx
      obtain ⟨e1, e2⟩ := hL.2 i hi
      have hin : cd_in (nI i) 60 = true := cd_inN (by omega) (by decide)
      rw [if_pos rfl, if_neg (nI_pos (by omega)), if_pos (nI_lt hi (by omega)), if_pos hin, if_pos hin, nI_clamp (by omega), e1, e2]
      rcases hy with rfl | rfl
      · rw [if_pos rfl, if_pos (show (0 : Int32) = nI 0 from rfl)]
        exact cw_ret ⟨rfl, hM, cf_fr.rf⟩
      · rw [if_neg (by decide), if_neg (show ¬ (1 : Int32) = nI 0 by decide)]
        exact cw_ret ⟨rfl, hM, cf_fr.rf⟩
  by_cases h0 : y = 0
  · rw [if_pos h0, if_pos (show ce_ix y 2 = true by rw [h0]; decide)]
    exact inner y (Or.inl h0)
  · rw [if_neg h0]
    by_cases h1 : y = 1
    · rw [if_pos h1, if_pos (show ce_ix y 2 = true by rw [h1]; decide)]
      exact inner y (Or.inr h1)
    · rw [if_neg h1, if_neg (show ¬ ce_ix y 2 = true from fun q => by
        obtain ⟨t, ht, rfl⟩ := ce_ix_t q
        have : t = 0 ∨ t = 1 := by omega
        rcases this with rfl | rfl
        · exact h0 rfl
        · exact h1 rfl)]
      exact cw_ret ⟨rfl, hM, cf_fr.rf⟩
theorem cp_85 (hK : ce_ok D S Y) (hM : cf_M D S Y w I J) : cw L w (cd_c 85 [.ref 2] (cd_mm L w I J)) (cf_post (.int (cd_tf (ce_next D S none 0).isNone)) D S Y w I) := by
  refine cw_c (l := [_]) rfl rfl ?_
  refine cw_m (fun _ => cd_s85_0) ?_
  refine cw_ci (cw_mono (cp_79p (o := none) (b := 0) hK hM (fun u h => by cases h) (by decide)) ?_)
  intro v I1 J1 ⟨hv, M1, f1⟩
  refine ⟨_, hv, ?_⟩
  refine cw_m (fun _ => cd_s85_9) ?_
  cases (ce_next D S none 0).isNone with
  | false => rw [if_pos (show cd_tf false = 0 from rfl)]; exact cw_ret ⟨rfl, M1, f1⟩
  | true => rw [if_neg (show ¬ cd_tf true = 0 by decide)]; exact cw_ret ⟨rfl, M1, f1⟩
theorem cp_86n (hK : ce_ok D S Y) (hM : cf_M D S Y w I J) {x y : Int32} (hx : ce_ix x (D 0 0) = false) : cw L w (cd_c 86 [.ref 2, .int x, .int y] (cd_mm L w I J)) (cf_post (.int (-1001)) D S Y w I) := by
  refine cw_c (l := [_, _, _]) rfl rfl ?_
  refine cw_m (fun _ => cd_s86_0) ?_
  rw [cp_49 hM.1.1 hK.1, cw_bi, hx]
  refine cw_m (fun _ => cd_s86_3) ?_
  rw [if_pos (show cd_tf false = 0 from rfl)]
  exact cw_ret ⟨rfl, hM, cf_fr.rf⟩
theorem cp_86o (hK : ce_ok D S Y) (hM : cf_M D S Y w I J) {x y : Int32} (hx : ce_ix x (D 0 0) = true) (hy : ce_ix y 1000 = false) : cw L w (cd_c 86 [.ref 2, .int x, .int y] (cd_mm L w I J)) (cf_post (.int (-1002)) D S Y w I) := by
  refine cw_c (l := [_, _, _]) rfl rfl ?_
  refine cw_m (fun _ => cd_s86_0) ?_
  rw [cp_49 hM.1.1 hK.1, cw_bi, hx]
  refine cw_m (fun _ => cd_s86_3) ?_
  rw [if_neg (show ¬ cd_tf true = 0 by decide), cp_74, cw_bi, hy]
  refine cw_m (fun _ => cd_s86_8) ?_
  rw [if_pos (show cd_tf false = 0 from rfl)]
  exact cw_ret ⟨rfl, hM, cf_fr.rf⟩
theorem cp_86 (hK : ce_ok D S Y) (hM : cf_M D S Y w I J) {t b : Nat} (ht : t < D 0 0) (hb : b < 1000) : cw L w (cd_c 86 [.ref 2, .int (nI t), .int (nI b)] (cd_mm L w I J)) (cf_post (.int (cd_tf (ce_next D S (some t) b).isNone)) D S Y w I) := by
  have h8 := hK.1.1.1
  refine cw_c (l := [_, _, _]) rfl rfl ?_
  refine cw_m (fun _ => cd_s86_0) ?_
  rw [cp_49 hM.1.1 hK.1, cw_bi, ce_ix_n ht (by omega)]
  refine cw_m (fun _ => cd_s86_3) ?_
  rw [if_neg (show ¬ cd_tf true = 0 by decide), cp_74, cw_bi, ce_ix_n hb (by decide)]
  refine cw_m (fun _ => cd_s86_8) ?_
  rw [if_neg (show ¬ cd_tf true = 0 by decide)]
  refine cw_ci (cw_mono (cp_79p (o := some t) (b := b) hK hM (fun u h => by cases h; omega) (by omega)) ?_)
  intro v I1 J1 ⟨hv, M1, f1⟩
  refine ⟨_, hv, ?_⟩
  refine cw_m (fun _ => cd_s86_20) ?_
  cases (ce_next D S (some t) b).isNone with
  | false => rw [if_pos (show cd_tf false = 0 from rfl)]; exact cw_ret ⟨rfl, M1, f1⟩
  | true => rw [if_neg (show ¬ cd_tf true = 0 by decide)]; exact cw_ret ⟨rfl, M1, f1⟩
end CGG
