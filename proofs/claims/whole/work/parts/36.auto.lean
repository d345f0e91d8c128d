/-! ===== weakest conditions over runs at the made memory; ints in one form ===== -/
theorem cw_l0 : (0 : Int32) = nI 0 := rfl
theorem cw_l1 : (1 : Int32) = nI 1 := rfl
theorem cw_l2 : (2 : Int32) = nI 2 := rfl
theorem cw_l3 : (3 : Int32) = nI 3 := rfl
theorem cw_l4 : (4 : Int32) = nI 4 := rfl
theorem cw_l5 : (5 : Int32) = nI 5 := rfl
theorem cw_l6 : (6 : Int32) = nI 6 := rfl
theorem cw_l7 : (7 : Int32) = nI 7 := rfl
theorem cw_l8 : (8 : Int32) = nI 8 := rfl
theorem cw_l9 : (9 : Int32) = nI 9 := rfl
theorem cw_l10 : (10 : Int32) = nI 10 := rfl
theorem cw_l11 : (11 : Int32) = nI 11 := rfl
theorem cw_l12 : (12 : Int32) = nI 12 := rfl
theorem cw_l13 : (13 : Int32) = nI 13 := rfl
theorem cw_l14 : (14 : Int32) = nI 14 := rfl
theorem cw_l15 : (15 : Int32) = nI 15 := rfl
theorem cw_l16 : (16 : Int32) = nI 16 := rfl
theorem cw_l17 : (17 : Int32) = nI 17 := rfl
theorem cw_l18 : (18 : Int32) = nI 18 := rfl
theorem cw_l19 : (19 : Int32) = nI 19 := rfl
theorem cw_l20 : (20 : Int32) = nI 20 := rfl
theorem cw_l27 : (27 : Int32) = nI 27 := rfl
theorem cw_l28 : (28 : Int32) = nI 28 := rfl
theorem cw_l52 : (52 : Int32) = nI 52 := rfl
theorem cw_l31 : (31 : Int32) = nI 31 := rfl
theorem cw_l32 : (32 : Int32) = nI 32 := rfl
theorem cw_l40 : (40 : Int32) = nI 40 := rfl
theorem cw_l60 : (60 : Int32) = nI 60 := rfl
theorem cw_l61 : (61 : Int32) = nI 61 := rfl
theorem cw_l63 : (63 : Int32) = nI 63 := rfl
theorem cw_l64 : (64 : Int32) = nI 64 := rfl
theorem cw_l80 : (80 : Int32) = nI 80 := rfl
theorem cw_l97 : (97 : Int32) = nI 97 := rfl
theorem cw_l99 : (99 : Int32) = nI 99 := rfl
theorem cw_l100 : (100 : Int32) = nI 100 := rfl
theorem cw_l255 : (255 : Int32) = nI 255 := rfl
theorem cw_l500 : (500 : Int32) = nI 500 := rfl
theorem cw_l999 : (999 : Int32) = nI 999 := rfl
theorem cw_l65536 : (65536 : Int32) = nI 65536 := rfl
/-- t comes to an end, and Q holds of its answer and memory -/
def cw (L : Nat) (w : Bool) (t : Option cd_Ret) (Q : Option Value → (Nat → Nat → Int32) → (Nat → Nat → Int64) → Prop) : Prop := ∃ v I J, t = some (v, cd_mm L w I J) ∧ Q v I J
section CWA
variable {L : Nat} {w : Bool} {Q P : Option Value → (Nat → Nat → Int32) → (Nat → Nat → Int64) → Prop} {I : Nat → Nat → Int32} {J : Nat → Nat → Int64}
theorem cw_m {t t2 : Option cd_Ret} (h : ∀ r, t = some r → t2 = some r) (k : cw L w t Q) : cw L w t2 Q := by
  obtain ⟨v, I, J, e, q⟩ := k
  exact ⟨v, I, J, h _ e, q⟩
theorem cw_mono {t : Option cd_Ret} (k : cw L w t P) (h : ∀ v I J, P v I J → Q v I J) : cw L w t Q := by
  obtain ⟨v, I, J, e, q⟩ := k
  exact ⟨v, I, J, e, h _ _ _ q⟩
theorem cw_ret {v : Option Value} (h : Q v I J) : cw L w (some (v, cd_mm L w I J)) Q := ⟨v, I, J, rfl, h⟩
theorem cw_of {t : Option cd_Ret} {v : Option Value} (e : t = some (v, cd_mm L w I J)) (h : Q v I J) : cw L w t Q := ⟨v, I, J, e, h⟩
theorem cw_eq {t : Option cd_Ret} {v : Option Value} (h : cw L w t (fun v2 I2 J2 => v2 = v ∧ I2 = I ∧ J2 = J)) : t = some (v, cd_mm L w I J) := by
  obtain ⟨v2, I2, J2, e, rfl, rfl, rfl⟩ := h
  exact e
theorem cw_if {c : Prop} [Decidable c] {t e : Option cd_Ret} (h1 : c → cw L w t Q) (h2 : ¬ c → cw L w e Q) : cw L w (if c then t else e) Q := by
  by_cases h : c
  · rw [if_pos h]; exact h1 h
  · rw [if_neg h]; exact h2 h
theorem cw_c {y : Nat} {a : List Value} {M : cd_M} {l : List Value} (hl : cd_ent y a = l) (hn : (Nat.ble (cd_args a).length (cd_mx y) && a.all cd_nz) = true) (h : cw L w (cd_go y 0 l [] M) Q) : cw L w (cd_c y a M) Q := cw_m (fun _ => cd_c_of hl hn) h
theorem cw_ci {x : Option cd_Ret} {f : Int32 × cd_M → Option cd_Ret} (h : cw L w x (fun v I J => ∃ u, v = some (.int u) ∧ cw L w (f (u, cd_mm L w I J)) Q)) : cw L w ((cd_ci x).bind f) Q := by
  obtain ⟨v, I, J, e, u, rfl, v2, I2, J2, e2, q⟩ := h
  exact ⟨v2, I2, J2, cd_ci_s.mpr ⟨_, _, e, e2⟩, q⟩
theorem cw_cl {x : Option cd_Ret} {f : Int64 × cd_M → Option cd_Ret} (h : cw L w x (fun v I J => ∃ u, v = some (.long u) ∧ cw L w (f (u, cd_mm L w I J)) Q)) : cw L w ((cd_cl x).bind f) Q := by
  obtain ⟨v, I, J, e, u, rfl, v2, I2, J2, e2, q⟩ := h
  exact ⟨v2, I2, J2, cd_cl_s.mpr ⟨_, _, e, e2⟩, q⟩
theorem cw_cv {x : Option cd_Ret} {f : cd_M → Option cd_Ret} (h : cw L w x (fun v I J => v = none ∧ cw L w (f (cd_mm L w I J)) Q)) : cw L w ((cd_cv x).bind f) Q := by
  obtain ⟨v, I, J, e, rfl, v2, I2, J2, e2, q⟩ := h
  exact ⟨v2, I2, J2, cd_cv_s.mpr ⟨_, e, e2⟩, q⟩
end CWA
theorem cw_bi {v : Int32} {M : cd_M} {f : Int32 × cd_M → Option cd_Ret} : (cd_ci (some (some (.int v), M))).bind f = f (v, M) := rfl
theorem cw_bl {v : Int64} {M : cd_M} {f : Int64 × cd_M → Option cd_Ret} : (cd_cl (some (some (.long v), M))).bind f = f (v, M) := rfl
theorem cw_bv {M : cd_M} {f : cd_M → Option cd_Ret} : (cd_cv (some (none, M))).bind f = f M := rfl
theorem cw_subc {a b : Nat} (h : b ≤ a) : nI a - nI b = nI (a - b) := pk_sub h
theorem cw_zz (n : Nat) : zI (n : Int) = nI n := zI_n n
theorem cw_ltN {a b : Nat} (ha : a < 2 ^ 31) (hb : b < 2 ^ 31) : (nI a < nI b) = (a < b) := propext (nI_ltI ha hb)
theorem cw_eqN {a b : Nat} (ha : a < 2 ^ 31) (hb : b < 2 ^ 31) : (nI a = nI b) = (a = b) := propext (nI_eq ha hb)
theorem cw_tf0 {c : Bool} : (cd_tf c = nI 0) = (c = false) := propext cd_tf_0
theorem cw_tf1 {c : Bool} : (cd_tf c = nI 1) = (c = true) := by cases c <;> decide
theorem cw_tfa {c : Bool} : cd_tf c &&& nI 1 = cd_tf c := cd_tf_and c
theorem cw_neg1 : -(nI 1) = zI (-1) := rfl
theorem cw_m1a {n : Nat} (h : 1 ≤ n) : nI n + zI (-1) = nI (n - 1) := by
  obtain ⟨m, rfl⟩ : ∃ m, n = m + 1 := ⟨n - 1, by omega⟩
  exact pk_m1 m
theorem cw_ztl {a b : Int} (h1 : -(2 : Int) ^ 31 ≤ a) (h2 : a < (2 : Int) ^ 31) (h3 : -(2 : Int) ^ 31 ≤ b) (h4 : b < (2 : Int) ^ 31) : (zI a < zI b) = (a < b) := propext (zI_lt h1 h2 h3 h4)
theorem zI_eq {a b : Int} (h1 : -(2 : Int) ^ 31 ≤ a) (h2 : a < (2 : Int) ^ 31) (h3 : -(2 : Int) ^ 31 ≤ b) (h4 : b < (2 : Int) ^ 31) : zI a = zI b ↔ a = b := by rw [fa_eq, zI_ti h1 h2, zI_ti h3 h4]
theorem cw_zeq {a b : Int} (h1 : -(2 : Int) ^ 31 ≤ a) (h2 : a < (2 : Int) ^ 31) (h3 : -(2 : Int) ^ 31 ≤ b) (h4 : b < (2 : Int) ^ 31) : (zI a = zI b) = (a = b) := propext (zI_eq h1 h2 h3 h4)
theorem cw_zadd (a b : Int) : zI a + zI b = zI (a + b) := zI_add a b
theorem cw_znadd (a : Int) (b : Nat) : zI a + nI b = zI (a + (b : Int)) := by rw [← zI_n, zI_add]
theorem cw_nzadd (a : Nat) (b : Int) : nI a + zI b = zI ((a : Int) + b) := by rw [← zI_n, zI_add]
theorem cw_zsub (a b : Int) : zI a - zI b = zI (a - b) := zI_sub a b
theorem cw_znsub (a : Int) (b : Nat) : zI a - nI b = zI (a - (b : Int)) := by rw [← zI_n, zI_sub]
theorem cw_nzsub (a : Nat) (b : Int) : nI a - zI b = zI ((a : Int) - b) := by rw [← zI_n, zI_sub]
theorem cw_sub2 (a b : Nat) : nI a - nI b = zI ((a : Int) - (b : Int)) := by rw [← zI_n, ← zI_n, zI_sub]
theorem cw_zmul (a b : Int) : zI a * zI b = zI (a * b) := zI_mul a b
theorem cw_znmul (a : Int) (b : Nat) : zI a * nI b = zI (a * (b : Int)) := by rw [← zI_n, zI_mul]
theorem cw_nzmul (a : Nat) (b : Int) : nI a * zI b = zI ((a : Int) * b) := by rw [← zI_n, zI_mul]
theorem cw_ltNZ {a : Nat} {b : Int} (h1 : a < 2 ^ 31) (h3 : -(2 : Int) ^ 31 ≤ b) (h4 : b < (2 : Int) ^ 31) : (nI a < zI b) = ((a : Int) < b) := by rw [← zI_n]; exact cw_ztl (by omega) (by omega) h3 h4
theorem cw_ltZN {a : Int} {b : Nat} (h3 : -(2 : Int) ^ 31 ≤ a) (h4 : a < (2 : Int) ^ 31) (h1 : b < 2 ^ 31) : (zI a < nI b) = (a < (b : Int)) := by rw [← zI_n]; exact cw_ztl h3 h4 (by omega) (by omega)
theorem cw_oi {o : Option Nat} (h : ∀ k, o = some k → k < 2 ^ 31) : (cd_oi o < nI 0) = (o = none) := by
  cases o with
  | none => exact propext ⟨fun _ => rfl, fun _ => by decide⟩
  | some k => exact propext ⟨fun q => absurd q (nI_pos (h k rfl)), fun q => by cases q⟩
theorem cw_uu {α : Type} (f : Nat → Nat → α) (a k : Nat) (v : α) (b j : Nat) : cd_up f a k v b j = if b = a then (if j = k then v else f b j) else f b j := rfl
theorem cw_zd {a : Int} {b : Nat} (h0 : 0 ≤ a) (h1 : a < (2 : Int) ^ 31) (h2 : 0 < b) (h3 : b < 2 ^ 31) : zI a / nI b = zI (a / (b : Int)) := by
  obtain ⟨n, rfl⟩ := Int.eq_ofNat_of_zero_le h0
  have e2 : ((n : Int) / (b : Int)) = ((n / b : Nat) : Int) := (Int.natCast_ediv n b).symm
  rw [zI_n, pk_div (by omega) h2 h3, e2, zI_n]
theorem cw_neg (a : Int) : -(zI a) = zI (-a) := (Int32.ofInt_neg a).symm
theorem cw_negN (a : Nat) : -(nI a) = zI (-(a : Int)) := by rw [← zI_n, cw_neg]
section CWL
variable {L : Nat} {w : Bool} {Q : Option Value → (Nat → Nat → Int32) → (Nat → Nat → Int64) → Prop}
/-- a loop upwards -/
theorem cw_up {σ : Type} (G : Nat → σ → Option cd_Ret) (V : Nat → σ → Prop) (n : Nat) (he : ∀ s, V n s → cw L w (G n s) Q) (hs : ∀ i s, i < n → V i s → (∀ s2, V (i + 1) s2 → cw L w (G (i + 1) s2) Q) → cw L w (G i s) Q) : ∀ i s, i ≤ n → V i s → cw L w (G i s) Q := by
  have key : ∀ d i s, i + d = n → V i s → cw L w (G i s) Q := by
    intro d
    induction d with
    | zero =>
      intro i s hi hv
      obtain rfl : i = n := by omega
      exact he s hv
    | succ d ih =>
      intro i s hi hv
      exact hs i s (by omega) hv (fun s2 h2 => ih (i + 1) s2 (by omega) h2)
  intro i s hi hv
  exact key (n - i) i s (by omega) hv
/-- a loop downwards -/
theorem cw_dn {σ : Type} (G : Nat → σ → Option cd_Ret) (V : Nat → σ → Prop) (he : ∀ s, V 0 s → cw L w (G 0 s) Q) (hs : ∀ i s, V (i + 1) s → (∀ s2, V i s2 → cw L w (G i s2) Q) → cw L w (G (i + 1) s) Q) : ∀ i s, V i s → cw L w (G i s) Q := by
  intro i
  induction i with
  | zero => exact he
  | succ i ih => intro s hv; exact hs i s hv ih
/-- a loop by a measure -/
theorem cw_ms {σ : Type} (G : σ → Option cd_Ret) (V : σ → Prop) (m : σ → Nat) (hs : ∀ s, V s → (∀ s2, V s2 → m s2 < m s → cw L w (G s2) Q) → cw L w (G s) Q) : ∀ s, V s → cw L w (G s) Q := by
  have key : ∀ d s, m s < d → V s → cw L w (G s) Q := by
    intro d
    induction d with
    | zero => intro s h _; omega
    | succ d ih => intro s h hv; exact hs s hv (fun s2 h2 hm => ih s2 (by omega) h2)
  intro s hv
  exact key (m s + 1) s (by omega) hv
end CWL
/-- the first from i on, of n, that p takes -/
def ce_fst (p : Nat → Bool) : Nat → Nat → Option Nat
  | 0, _ => none
  | n + 1, i => if p i then some i else ce_fst p n (i + 1)
theorem ce_fst_some {p : Nat → Bool} : ∀ {n i k : Nat}, ce_fst p n i = some k → i ≤ k ∧ k < i + n ∧ p k = true ∧ ∀ j, i ≤ j → j < k → p j = false := by
  intro n
  induction n with
  | zero => intro i k h; cases h
  | succ n ih =>
    intro i k h
    unfold ce_fst at h
    cases hp : p i with
    | true =>
      rw [hp, if_pos rfl] at h
      cases h
      exact ⟨by omega, by omega, hp, fun j h1 h2 => by omega⟩
    | false =>
      rw [hp] at h
      obtain ⟨a, b, c, d⟩ := ih h
      refine ⟨by omega, by omega, c, fun j h1 h2 => ?_⟩
      by_cases hj : j = i
      · rw [hj, hp]
      · exact d j (by omega) h2
theorem ce_fst_none {p : Nat → Bool} : ∀ {n i : Nat}, ce_fst p n i = none → ∀ j, i ≤ j → j < i + n → p j = false := by
  intro n
  induction n with
  | zero => intro i _ j h1 h2; omega
  | succ n ih =>
    intro i h j h1 h2
    unfold ce_fst at h
    cases hp : p i with
    | true => rw [hp, if_pos rfl] at h; cases h
    | false =>
      rw [hp] at h
      by_cases hj : j = i
      · rw [hj, hp]
      · exact ih h j (by omega) (by omega)
theorem ce_fst_cong {p q : Nat → Bool} : ∀ {n i : Nat}, (∀ j, i ≤ j → j < i + n → p j = q j) → ce_fst p n i = ce_fst q n i := by
  intro n
  induction n with
  | zero => intro i _; rfl
  | succ n ih =>
    intro i h
    unfold ce_fst
    rw [h i (by omega) (by omega), ih (fun j h1 h2 => h j (by omega) (by omega))]
/-- the set, as a number, of those below n that f takes -/
def ce_msk (f : Nat → Bool) : Nat → Nat
  | 0 => 0
  | n + 1 => ce_msk f n + (if f n then 2 ^ n else 0)
theorem ce_msk_lt (f : Nat → Bool) : ∀ n, ce_msk f n < 2 ^ n := by
  intro n
  induction n with
  | zero => exact Nat.one_pos
  | succ n ih =>
    unfold ce_msk
    rw [Nat.pow_succ]
    split <;> omega
theorem ce_msk_tb (f : Nat → Bool) : ∀ n k, (ce_msk f n).testBit k = (decide (k < n) && f k) := by
  intro n
  induction n with
  | zero => intro k; show (0 : Nat).testBit k = _; rw [Nat.zero_testBit]; simp
  | succ n ih =>
    intro k
    unfold ce_msk
    have hl := ce_msk_lt f n
    cases hf : f n with
    | false =>
      rw [if_neg (by decide), Nat.add_zero, ih]
      by_cases hk : k = n
      · subst hk; rw [hf]; simp
      · rw [show decide (k < n + 1) = decide (k < n) from decide_eq_decide.mpr (by omega)]
    | true =>
      rw [if_pos rfl, Nat.add_comm]
      rcases Nat.lt_trichotomy k n with h | h | h
      · rw [Nat.testBit_two_pow_add_gt h, ih, decide_eq_true h, decide_eq_true (show k < n + 1 by omega)]
      · subst h
        rw [Nat.testBit_two_pow_add_eq, Nat.testBit_lt_two_pow hl, hf]
        simp
      · rw [Nat.testBit_lt_two_pow (Nat.lt_of_lt_of_le (show 2 ^ n + ce_msk f n < 2 ^ (n + 1) by rw [Nat.pow_succ]; omega) (Nat.pow_le_pow_right (by decide) (show n + 1 ≤ k by omega))), decide_eq_false (show ¬ k < n + 1 by omega)]
        rfl
theorem ce_msk_cong {f g : Nat → Bool} : ∀ n, (∀ k, k < n → f k = g k) → ce_msk f n = ce_msk g n := by
  intro n
  induction n with
  | zero => intro _; rfl
  | succ n ih =>
    intro h
    unfold ce_msk
    rw [ih (fun k hk => h k (by omega)), h n (by omega)]
theorem ce_msk_id {m n : Nat} (h : m < 2 ^ n) : ce_msk (fun k => m.testBit k) n = m := by
  refine Nat.eq_of_testBit_eq (fun k => ?_)
  rw [ce_msk_tb]
  by_cases hk : k < n
  · rw [decide_eq_true hk, Bool.true_and]
  · rw [decide_eq_false hk, Bool.false_and, Nat.testBit_lt_two_pow (Nat.lt_of_lt_of_le h (Nat.pow_le_pow_right (by decide) (by omega)))]
theorem cw_c0 : ((0 : Nat) : Int) = 0 := rfl
theorem cw_c1 : ((1 : Nat) : Int) = 1 := rfl
theorem cw_c2 : ((2 : Nat) : Int) = 2 := rfl
theorem cw_c3 : ((3 : Nat) : Int) = 3 := rfl
theorem cw_c4 : ((4 : Nat) : Int) = 4 := rfl
theorem cw_c5 : ((5 : Nat) : Int) = 5 := rfl
theorem cw_c8 : ((8 : Nat) : Int) = 8 := rfl
theorem cw_c10 : ((10 : Nat) : Int) = 10 := rfl
theorem cw_c40 : ((40 : Nat) : Int) = 40 := rfl
theorem cw_c80 : ((80 : Nat) : Int) = 80 := rfl
theorem cw_c100 : ((100 : Nat) : Int) = 100 := rfl
theorem cw_beqf {a b : Nat} (h : ¬ a = b) : Nat.beq a b = false := Bool.eq_false_iff.mpr fun q => h (Nat.eq_of_beq_eq_true q)
theorem cw_beq (a b : Nat) : Nat.beq a b = decide (a = b) := by
  by_cases h : a = b
  · rw [h, Nat.beq_refl, decide_eq_true rfl]
  · rw [cw_beqf h, decide_eq_false h]
section CWB
variable {L : Nat} {w : Bool} {I : Nat → Nat → Int32} {J : Nat → Nat → Int64}
theorem cp_144z {z : Int} (h1 : -(2 : Int) ^ 30 ≤ z) (h2 : z < (2 : Int) ^ 30) : cd_c 144 [.int (zI z)] (cd_mm L w I J) = some (some (.int (zI (ce_abs z))), cd_mm L w I J) := by
  rw [cp_144, ce_absI h1 h2]
theorem cp_140n {c : Nat} (h : c < 2 ^ 31) : cd_c 140 [.int (nI c)] (cd_mm L w I J) = some (some (.int (cd_tf (decide (c < 64)))), cd_mm L w I J) := by
  rw [cp_140]
  have e1 : decide ((0 : Int32) ≤ nI c) = true := decide_eq_true (nI_pos' h)
  have e2 : decide (nI c ≤ 63) = decide (c < 64) := decide_eq_decide.mpr (by
    rw [show (63 : Int32) = nI 63 from rfl, nI_leI h (by decide)]
    omega)
  rw [e1, e2, Bool.true_and]
end CWB
theorem cw_mabs {z : Int} (h1 : -(2 : Int) ^ 30 ≤ z) (h2 : z < (2 : Int) ^ 30) : (if nI 0 ≤ zI z then zI z else nI 0 - zI z) = zI (ce_abs z) := by
  rw [← ce_absI h1 h2, show nI 0 = zI 0 from rfl]
  by_cases h : z < 0
  · rw [if_neg (fun q => by have := (zI_le (by decide) (by decide) (by omega) (by omega)).mp q; omega), show (0 : Int32) = zI 0 from rfl, if_pos ((zI_lt (by omega) (by omega) (by decide) (by decide)).mpr h), zI_sub, cw_neg]
    congr 1
    omega
  · rw [if_pos ((zI_le (by decide) (by decide) (by omega) (by omega)).mpr (by omega)), show (0 : Int32) = zI 0 from rfl, if_neg (fun q => h ((zI_lt (by omega) (by omega) (by decide) (by decide)).mp q))]
theorem ce_max_c (a b : Int) : ce_max a b = ce_max b a := by
  unfold ce_max
  split <;> split <;> omega
theorem cw_mmax {a b : Int} : (if a < b then zI b else zI a) = zI (ce_max a b) := by
  rw [ce_max_c]
  unfold ce_max
  split <;> rfl
theorem cw_oie {o : Option Nat} (ho : ∀ t, o = some t → t < 2 ^ 31) {x : Nat} (hx : x < 2 ^ 31) : (nI x = cd_oi o) = (o = some x) := by
  cases o with
  | none => exact propext ⟨fun q => absurd (show nI x < 0 by rw [q]; decide) (nI_pos hx), fun q => by cases q⟩
  | some t =>
    have := ho t rfl
    exact propext ((nI_eq hx (by omega)).trans ⟨fun q => by rw [q], fun q => by cases q; rfl⟩)
theorem cw_mod8 (a : Nat) : a - a / 8 * 8 = a % 8 := by omega
theorem ce_sum_s (f : Nat → Int) (n : Nat) : ce_sum f (n + 1) = ce_sum f n + f n := rfl
/-- the reference's den doesn't hang on other cells -/
theorem cd_refD.of {D : cd_D} {I I1 : Nat → Nat → Int32} (hR : cd_refD D I) (g : ∀ a k, 100 ≤ a ∧ a ≤ 109 ∧ a ≠ 101 ∧ a ≠ 106 → (a = 100 → k = 0 ∨ k = 7 ∨ k = 9 ∨ k = 15 ∨ k = 16) → I1 a k = I a k) : cd_refD D I1 := by
  obtain ⟨⟨a1, a2, a3, a4, a5⟩, b, c, d⟩ := hR
  have h0 : ∀ a k, 102 ≤ a ∧ a ≤ 109 ∧ a ≠ 106 → I1 a k = I a k := fun a k h => g a k (by omega) (by omega)
  have h1 : ∀ k, k = 0 ∨ k = 7 ∨ k = 9 ∨ k = 15 ∨ k = 16 → I1 100 k = I 100 k := fun k h => g 100 k (by omega) (fun _ => h)
  refine ⟨⟨?_, ?_, ?_, ?_, ?_⟩, fun t ht => ?_, fun k hk => ?_, fun k hk => ?_⟩
  · rw [h1 0 (by decide), a1]
  · rw [h1 7 (by decide), a2]
  · rw [h1 9 (by decide), a3]
  · rw [h1 15 (by decide), a4]
  · rw [h1 16 (by decide), a5]
  · rw [h0 102 t (by decide), h0 103 t (by decide), h0 104 t (by decide), h0 105 t (by decide)]; exact b t ht
  · rw [h0 107 _ (by decide), h0 107 _ (by decide), h0 107 _ (by decide), h0 107 _ (by decide), h0 107 _ (by decide)]; exact c k hk
  · rw [h0 108 k (by decide), h0 109 k (by decide)]; exact d k hk
theorem cd_refS.of {D : cd_D} {S : cd_S} {I I1 : Nat → Nat → Int32} (hT : cd_refS D S I) (g : ∀ a k, a = 101 ∨ a = 106 ∨ 110 ≤ a ∧ a ≤ 112 → I1 a k = I a k) : cd_refS D S I1 := by
  refine ⟨fun t ht => ?_, fun k hk => ?_⟩
  · rw [g 101 t (by decide), g 106 t (by decide)]; exact hT.1 t ht
  · rw [g 110 k (by decide), g 111 k (by decide), g 112 k (by decide)]; exact hT.2 k hk
theorem cw_on : cd_oi none = zI (-1) := rfl
theorem cw_os (k : Nat) : cd_oi (some k) = nI k := rfl
theorem cw_eqZN {a : Int} {b : Nat} (h3 : -(2 : Int) ^ 31 ≤ a) (h4 : a < (2 : Int) ^ 31) (h1 : b < 2 ^ 31) : (zI a = nI b) = (a = (b : Int)) := by rw [← zI_n]; exact cw_zeq h3 h4 (by omega) (by omega)
theorem cw_eqNZ {a : Nat} {b : Int} (h1 : a < 2 ^ 31) (h3 : -(2 : Int) ^ 31 ≤ b) (h4 : b < (2 : Int) ^ 31) : (nI a = zI b) = ((a : Int) = b) := by rw [← zI_n]; exact cw_zeq (by omega) (by omega) h3 h4
theorem cd_up_k2 {α : Type} {f : Nat → Nat → α} {a k b j : Nat} {v : α} (h : ¬ (b = a ∧ j = k)) : cd_up f a k v b j = f b j := by
  unfold cd_up
  by_cases hb : b = a
  · rw [if_pos hb, if_neg (fun q => h ⟨hb, q⟩)]
  · rw [if_neg hb]
