/-! ===== texts: blanks, words, numbers ===== -/
/-- the first place from q on, below n, that p takes; n, if there is none -/
def ce_end (p : Nat → Bool) (n q : Nat) : Nat := (ce_fst p (n - q) q).getD n
theorem ce_end_n (p : Nat → Bool) (n : Nat) : ce_end p n n = n := by unfold ce_end; rw [Nat.sub_self]; rfl
theorem ce_end_st {p : Nat → Bool} {n q : Nat} (h : q < n) : ce_end p n q = if p q then q else ce_end p n (q + 1) := by
  unfold ce_end
  rw [ce_fst_st h]
  cases p q with
  | true => rfl
  | false => rfl
theorem ce_end_b {p : Nat → Bool} {n q : Nat} (h : q ≤ n) : q ≤ ce_end p n q ∧ ce_end p n q ≤ n ∧ (ce_end p n q < n → p (ce_end p n q) = true) ∧ ∀ k, q ≤ k → k < ce_end p n q → p k = false := by
  unfold ce_end
  cases hf : ce_fst p (n - q) q with
  | none =>
    have := ce_fst_none hf
    exact ⟨h, Nat.le_refl n, fun h2 => absurd h2 (Nat.lt_irrefl n), fun k h1 h2 => this k h1 (by replace h2 : k < n := h2; omega)⟩
  | some k =>
    obtain ⟨a, b, c, d⟩ := ce_fst_some hf
    exact ⟨a, by show k ≤ n; omega, fun _ => c, d⟩
def ce_let (c : Nat) : Bool := decide (97 ≤ c) && decide (c ≤ 122)
def ce_dig (c : Nat) : Bool := decide (48 ≤ c) && decide (c ≤ 57)
def ce_sk (x : Nat → Nat) (n q : Nat) : Nat := ce_end (fun k => !decide (x k = 32)) n q
def ce_we (x : Nat → Nat) (n q : Nat) : Nat := ce_end (fun k => !ce_let (x k)) n q
def ce_de (x : Nat → Nat) (n q : Nat) : Nat := ce_end (fun k => !ce_dig (x k)) n q
/-- what the figures from s on tell, i of them -/
def ce_nm (x : Nat → Nat) (s : Nat) : Nat → Nat
  | 0 => 0
  | i + 1 => if 1000 < ce_nm x s i then ce_nm x s i else 10 * ce_nm x s i + x (s + i) - 48
/-- a word from s on, m letters, told as a number -/
def ce_cdn (x : Nat → Nat) (s : Nat) : Nat → Nat
  | 0 => 0
  | i + 1 => if 1000000000000 < ce_cdn x s i then 2000000000000 else 27 * ce_cdn x s i + x (s + i) - 96
/-- m letters from s on are the word, told from its end -/
def ce_wdr (x : Nat → Nat) (s : Nat) : Nat → List Nat → Bool
  | m, [] => decide (m = 0)
  | 0, _ :: _ => false
  | m + 1, c :: r => decide (x (s + m) = c) && ce_wdr x s m r
def ce_cl : List Nat → Nat
  | [] => 0
  | c :: r => 27 * ce_cl r + (c - 96)
theorem ce_cdn_wd {x : Nat → Nat} {s : Nat} : ∀ (l : List Nat) (m : Nat), (∀ i, i < m → ce_let (x (s + i)) = true) → (∀ c, c ∈ l → 97 ≤ c ∧ c ≤ 122) → ce_cl l ≤ 1000000000000 → (ce_cdn x s m = ce_cl l ↔ ce_wdr x s m l = true) := by
  have hlet : ∀ i m, i < m → (∀ i, i < m → ce_let (x (s + i)) = true) → 97 ≤ x (s + i) ∧ x (s + i) ≤ 122 := fun i m hi h => by
    have := h i hi
    unfold ce_let at this
    rw [Bool.and_eq_true, decide_eq_true_eq, decide_eq_true_eq] at this
    exact this
  intro l
  induction l with
  | nil =>
    intro m hm _ _
    cases m with
    | zero => exact ⟨fun _ => rfl, fun _ => rfl⟩
    | succ m =>
      have h1 := hlet m (m + 1) (by omega) hm
      have : ce_cdn x s (m + 1) ≠ 0 := by
        show (if 1000000000000 < ce_cdn x s m then 2000000000000 else 27 * ce_cdn x s m + x (s + m) - 96) ≠ 0
        split <;> omega
      exact ⟨fun q => absurd q this, fun q => by unfold ce_wdr at q; rw [decide_eq_true_eq] at q; omega⟩
  | cons c r ih =>
    intro m hm hl hb
    have hc := hl c (List.mem_cons_self)
    have hcl : ce_cl (c :: r) = 27 * ce_cl r + (c - 96) := rfl
    cases m with
    | zero =>
      refine ⟨fun q => ?_, fun q => by cases q⟩
      replace q : 0 = ce_cl (c :: r) := q
      omega
    | succ m =>
      have h1 := hlet m (m + 1) (by omega) hm
      have ih := ih m (fun i hi => hm i (by omega)) (fun d hd => hl d (List.mem_cons_of_mem _ hd)) (by omega)
      have e : ce_cdn x s (m + 1) = if 1000000000000 < ce_cdn x s m then 2000000000000 else 27 * ce_cdn x s m + x (s + m) - 96 := rfl
      have e2 : ce_wdr x s (m + 1) (c :: r) = (decide (x (s + m) = c) && ce_wdr x s m r) := rfl
      rw [e, e2, hcl, Bool.and_eq_true, decide_eq_true_eq, ← ih]
      by_cases hbig : 1000000000000 < ce_cdn x s m
      · rw [if_pos hbig]
        omega
      · rw [if_neg hbig]
        omega
theorem ce_nm_b {x : Nat → Nat} {s : Nat} (hx : ∀ k, x k < 256) : ∀ i, ce_nm x s i ≤ 10300 := by
  intro i
  induction i with
  | zero => exact Nat.zero_le _
  | succ i ih =>
    have := hx (s + i)
    unfold ce_nm
    split <;> omega
theorem ce_cdn_b {x : Nat → Nat} {s : Nat} (hx : ∀ k, x k < 256) : ∀ i, ce_cdn x s i ≤ 27000000001000 := by
  intro i
  induction i with
  | zero => exact Nat.zero_le _
  | succ i ih =>
    have := hx (s + i)
    unfold ce_cdn
    split <;> omega
/-- a number from lo on, below hi: what it is, where it begins and ends; else a fault and its place -/
def ce_num (x : Nat → Nat) (n lo hi q : Nat) : Except (Nat × Nat) (Nat × Nat × Nat) :=
  if ce_sk x n q < n ∧ ce_dig (x (ce_sk x n q)) = true then
    (if 2 < ce_de x n (ce_sk x n q) - ce_sk x n q then .error (2, ce_sk x n q)
     else if lo ≤ ce_nm x (ce_sk x n q) (ce_de x n (ce_sk x n q) - ce_sk x n q) ∧ ce_nm x (ce_sk x n q) (ce_de x n (ce_sk x n q) - ce_sk x n q) < hi then .ok (ce_nm x (ce_sk x n q) (ce_de x n (ce_sk x n q) - ce_sk x n q), ce_sk x n q, ce_de x n (ce_sk x n q))
     else .error (2, ce_sk x n q))
  else .error (1, ce_sk x n q)
/-- a clause's end -/
def ce_stop (x : Nat → Nat) (n q : Nat) : Except (Nat × Nat) Nat := if ce_sk x n q < n ∧ x (ce_sk x n q) = 59 then .ok (ce_sk x n q + 1) else .error (1, ce_sk x n q)
theorem ce_num_b {x : Nat → Nat} {n lo hi q v s e : Nat} (hq : q ≤ n) (h : ce_num x n lo hi q = .ok (v, s, e)) : lo ≤ v ∧ v < hi ∧ q < e ∧ e ≤ n ∧ s < e ∧ s = ce_sk x n q ∧ e = ce_de x n s := by
  unfold ce_num at h
  obtain ⟨b1, b2, -, -⟩ := ce_end_b (p := fun k => !decide (x k = 32)) hq
  by_cases h1 : ce_sk x n q < n ∧ ce_dig (x (ce_sk x n q)) = true
  · rw [if_pos h1] at h
    obtain ⟨c1, c2, -, -⟩ := ce_end_b (p := fun k => !ce_dig (x k)) (n := n) (q := ce_sk x n q) b2
    have c3 : ce_sk x n q < ce_de x n (ce_sk x n q) := by
      unfold ce_de
      rw [ce_end_st h1.1, h1.2, Bool.not_true, if_neg (by decide)]
      exact (ce_end_b (p := fun k => !ce_dig (x k)) h1.1).1
    by_cases h2 : 2 < ce_de x n (ce_sk x n q) - ce_sk x n q
    · rw [if_pos h2] at h; cases h
    · rw [if_neg h2] at h
      split at h
      · rename_i h3
        cases h
        replace b1 : q ≤ ce_sk x n q := b1
        replace c2 : ce_de x n (ce_sk x n q) ≤ n := c2
        exact ⟨h3.1, h3.2, by omega, c2, c3, rfl, rfl⟩
      · cases h
  · rw [if_neg h1] at h; cases h
theorem ce_stop_b {x : Nat → Nat} {n q e : Nat} (hq : q ≤ n) (h : ce_stop x n q = .ok e) : q < e ∧ e ≤ n := by
  unfold ce_stop at h
  obtain ⟨b1, b2, -, -⟩ := ce_end_b (p := fun k => !decide (x k = 32)) hq
  replace b1 : q ≤ ce_sk x n q := b1
  split at h
  · cases h
    omega
  · cases h
/-! ===== the reference: blanks, words, numbers ===== -/
/-- the text stands in its cells, and the place -/
def ce_txt (x : Nat → Nat) (n : Nat) (I : Nat → Nat → Int32) : Prop := I 100 18 = nI n ∧ ∀ j, j < n → I 113 j = nI (x j)
section CFD
variable {L : Nat} {w : Bool} {I : Nat → Nat → Int32} {J : Nat → Nat → Int64} {D : cd_D} {S : cd_S}
variable {x : Nat → Nat} {n q : Nat}
theorem cp_153 {f p : Int32} : cd_c 153 [.ref 100, .int f, .int p] (cd_mm L w I J) = some (some (.int f), cd_mm L w (cd_up I 100 19 p) J) := by
  refine cd_c_of (l := [_, _, _]) rfl rfl (cd_s153_0 rfl)
theorem ce_txt.of {I1 : Nat → Nat → Int32} (h : ce_txt x n I) (g : ∀ a k, a = 113 ∨ a = 100 ∧ k = 18 → I1 a k = I a k) : ce_txt x n I1 := ⟨(g _ _ (by omega)).trans h.1, fun j hj => (g _ _ (by omega)).trans (h.2 j hj)⟩
theorem cp_152 (hn : n ≤ 500) (hx : ∀ k, x k < 256) (ht : ce_txt x n I) (hq : q ≤ n) (h20 : I 100 20 = nI q) : cw L w (cd_c 152 [.ref 100] (cd_mm L w I J)) (fun v I1 J1 => v = some (.int (if ce_sk x n q < n then nI (x (ce_sk x n q)) else -1)) ∧ J1 = J ∧ (∀ a k, ¬ (a = 100 ∧ k = 20) → I1 a k = I a k) ∧ I1 100 20 = nI (ce_sk x n q)) := by
  refine cw_c (l := [_]) rfl rfl ?_
  refine cw_up (fun i (I1 : Nat → Nat → Int32) => cd_go 152 0 [.ref 100] [] (cd_mm L w I1 J)) (fun i I1 => (∀ a k, ¬ (a = 100 ∧ k = 20) → I1 a k = I a k) ∧ I1 100 20 = nI i ∧ ce_sk x n q = ce_sk x n i) n ?_ ?_ q I hq ⟨fun _ _ _ => rfl, h20, rfl⟩
  · intro I1 ⟨f1, g1, e1⟩
    have e2 : ce_sk x n n = n := ce_end_n _ _
    rw [e1, e2, if_neg (Nat.lt_irrefl n)]
    have t1 : I1 100 18 = nI n := (f1 _ _ (by omega)).trans ht.1
    refine cw_m (fun _ => cd_s152_0) ?_
    simp (disch := omega) only [cw_l0, cw_l1, cw_l2, cw_l3, cw_l4, cw_l5, cw_l6, cw_l7, cw_l8, cw_l9, cw_l10, cw_l11, cw_l12, cw_l13, cw_l14, cw_l15, cw_l16, cw_l17, cw_l18, cw_l19, cw_l20, cw_l27, cw_l28, cw_l31, cw_l32, cw_l40, cw_l52, cw_l60, cw_l61, cw_l63, cw_l64, cw_l80, cw_l97, cw_l99, cw_l100, cw_l255, cw_l500, cw_l999, cw_l65536, cd_inN, nI_clamp, nI_add, pk_mul, cw_subc, cw_zz, pk_div, cw_ltN, cw_eqN, cw_tf0, cw_tf1, cw_tfa, cw_bi, cw_bl, cw_bv, if_true, if_false, Bool.false_eq_true, Bool.true_eq_false, ite_self, cw_neg1, cw_m1a, cw_ztl, cw_zeq, cw_zadd, cw_znadd, cw_nzadd, cw_zsub, cw_zmul, cw_znmul, cw_nzmul, cw_ltNZ, cw_eqZN, cw_eqNZ, cw_ltZN, cw_on, cw_os, cw_c0, cw_c1, cw_c2, cw_c3, cw_c4, cw_c5, cw_c8, cw_c10, cw_c40, cw_c80, cw_c100, cp_144z, cp_140n, cw_mabs, cw_mod8, decide_eq_true_eq, not_false_eq_true, not_true_eq_false, true_and, and_true, false_and, and_false, decide_eq_false_iff_not, Nat.not_lt, Nat.not_le, if_pos, if_neg, g1, t1]
    exact cw_ret ⟨rfl, rfl, f1, g1⟩
  · intro i I1 hi ⟨f1, g1, e1⟩ K
    have t1 : I1 100 18 = nI n := (f1 _ _ (by omega)).trans ht.1
    have t2 : I1 113 i = nI (x i) := (f1 _ _ (by omega)).trans (ht.2 i hi)
    have hxi := hx i
    have e2 : ce_sk x n i = if !decide (x i = 32) then i else ce_sk x n (i + 1) := ce_end_st hi
    have K := K (cd_up I1 100 20 (nI (i + 1)))
    refine cw_m (fun _ => cd_s152_0) ?_
    by_cases h32 : x i = 32
    · rw [decide_eq_true h32] at e2
      simp (disch := omega) only [cw_l0, cw_l1, cw_l2, cw_l3, cw_l4, cw_l5, cw_l6, cw_l7, cw_l8, cw_l9, cw_l10, cw_l11, cw_l12, cw_l13, cw_l14, cw_l15, cw_l16, cw_l17, cw_l18, cw_l19, cw_l20, cw_l27, cw_l28, cw_l31, cw_l32, cw_l40, cw_l52, cw_l60, cw_l61, cw_l63, cw_l64, cw_l80, cw_l97, cw_l99, cw_l100, cw_l255, cw_l500, cw_l999, cw_l65536, cd_inN, nI_clamp, nI_add, pk_mul, cw_subc, cw_zz, pk_div, cw_ltN, cw_eqN, cw_tf0, cw_tf1, cw_tfa, cw_bi, cw_bl, cw_bv, if_true, if_false, Bool.false_eq_true, Bool.true_eq_false, ite_self, cw_neg1, cw_m1a, cw_ztl, cw_zeq, cw_zadd, cw_znadd, cw_nzadd, cw_zsub, cw_zmul, cw_znmul, cw_nzmul, cw_ltNZ, cw_eqZN, cw_eqNZ, cw_ltZN, cw_on, cw_os, cw_c0, cw_c1, cw_c2, cw_c3, cw_c4, cw_c5, cw_c8, cw_c10, cw_c40, cw_c80, cw_c100, cp_144z, cp_140n, cw_mabs, cw_mod8, decide_eq_true_eq, not_false_eq_true, not_true_eq_false, true_and, and_true, false_and, and_false, decide_eq_false_iff_not, Nat.not_lt, Nat.not_le, if_pos, if_neg, g1, t1, t2]
      exact K ⟨fun a k h => (cd_up_k2 h).trans (f1 a k h), cd_up_s, e1.trans e2⟩
    · rw [decide_eq_false h32] at e2
      replace e2 : ce_sk x n i = i := e2
      rw [e1, e2, if_pos hi]
      simp (disch := omega) only [cw_l0, cw_l1, cw_l2, cw_l3, cw_l4, cw_l5, cw_l6, cw_l7, cw_l8, cw_l9, cw_l10, cw_l11, cw_l12, cw_l13, cw_l14, cw_l15, cw_l16, cw_l17, cw_l18, cw_l19, cw_l20, cw_l27, cw_l28, cw_l31, cw_l32, cw_l40, cw_l52, cw_l60, cw_l61, cw_l63, cw_l64, cw_l80, cw_l97, cw_l99, cw_l100, cw_l255, cw_l500, cw_l999, cw_l65536, cd_inN, nI_clamp, nI_add, pk_mul, cw_subc, cw_zz, pk_div, cw_ltN, cw_eqN, cw_tf0, cw_tf1, cw_tfa, cw_bi, cw_bl, cw_bv, if_true, if_false, Bool.false_eq_true, Bool.true_eq_false, ite_self, cw_neg1, cw_m1a, cw_ztl, cw_zeq, cw_zadd, cw_znadd, cw_nzadd, cw_zsub, cw_zmul, cw_znmul, cw_nzmul, cw_ltNZ, cw_eqZN, cw_eqNZ, cw_ltZN, cw_on, cw_os, cw_c0, cw_c1, cw_c2, cw_c3, cw_c4, cw_c5, cw_c8, cw_c10, cw_c40, cw_c80, cw_c100, cp_144z, cp_140n, cw_mabs, cw_mod8, decide_eq_true_eq, not_false_eq_true, not_true_eq_false, true_and, and_true, false_and, and_false, decide_eq_false_iff_not, Nat.not_lt, Nat.not_le, if_pos, if_neg, g1, t1, t2]
      exact cw_ret ⟨rfl, rfl, f1, g1⟩
theorem ce_inL {c lo hi : Nat} (hc : c < 2 ^ 31) (hl : lo < 2 ^ 31) (hh : hi < 2 ^ 31) : (decide (lN lo ≤ lN c) && decide (lN c ≤ lN hi)) = (decide (lo ≤ c) && decide (c ≤ hi)) := by
  rw [decide_eq_decide.mpr (lN_le hl hc), decide_eq_decide.mpr (lN_le hc hh)]
theorem cp_138L {c lo hi : Nat} (hc : c < 2 ^ 31) (hl : lo < 2 ^ 31) (hh : hi < 2 ^ 31) : cd_c 138 [.long (nI c).toInt64, .long (lN lo), .long (lN hi)] (cd_mm L w I J) = some (some (.int (cd_tf (decide (lo ≤ c) && decide (c ≤ hi)))), cd_mm L w I J) := by
  rw [cp_138, nI_l hc, ce_inL hc hl hh]
theorem cp_154 (hn : n ≤ 500) (hx : ∀ k, x k < 256) (ht : ce_txt x n I) (hq : q ≤ n) (h20 : I 100 20 = nI q) : cw L w (cd_c 154 [.ref 100] (cd_mm L w I J)) (fun v I1 J1 => v = none ∧ (∀ a k, a ≠ 100 → J1 a k = J a k) ∧ (∀ a k, ¬ (a = 100 ∧ (k = 20 ∨ k = 22)) → I1 a k = I a k) ∧ I1 100 20 = nI (ce_sk x n q) ∧ I1 100 22 = nI (ce_we x n (ce_sk x n q)) ∧ J1 100 21 = lN (ce_cdn x (ce_sk x n q) (ce_we x n (ce_sk x n q) - ce_sk x n q))) := by
  obtain ⟨b1, b2, -, -⟩ := ce_end_b (p := fun k => !decide (x k = 32)) hq
  replace b1 : q ≤ ce_sk x n q := b1
  replace b2 : ce_sk x n q ≤ n := b2
  refine cw_c (l := [_, _]) rfl rfl ?_
  refine cw_m (fun _ => cd_s154_0) ?_
  refine cw_ci (cw_mono (cp_152 hn hx ht hq h20) ?_)
  intro v I1 J1 ⟨hv, hJ, f1, g1⟩
  subst hv hJ
  refine ⟨_, rfl, ?_⟩
  generalize ce_sk x n q = s at *
  obtain ⟨c1, c2, -, c4⟩ := ce_end_b (p := fun k => !ce_let (x k)) b2
  have ht1 : ce_txt x n I1 := ht.of (fun a k h => f1 a k (by omega))
  generalize hr0 : (if s < n then nI (x s) else (-1 : Int32)) = r0
  refine cw_m (fun _ => cd_s154_2) ?_
  rw [g1]
  refine cw_up (fun i (y : (Nat → Nat → Int32) × (Nat → Nat → Int64)) => cd_go 154 10 [.ref 100, .int r0] [] (cd_mm L w y.1 y.2)) (fun i y => (∀ a k, a ≠ 100 → y.2 a k = J1 a k) ∧ (∀ a k, ¬ (a = 100 ∧ (k = 20 ∨ k = 22)) → y.1 a k = I a k) ∧ y.1 100 20 = nI s ∧ y.1 100 22 = nI i ∧ y.2 100 21 = lN (ce_cdn x s (i - s)) ∧ ce_we x n s = ce_we x n i ∧ s ≤ i) n ?_ ?_ s (cd_up I1 100 22 (nI s), cd_up J1 100 21 0) b2 ⟨fun a k h => cd_up_a h, fun a k h => (cd_up_k2 (by omega)).trans (f1 a k (by omega)), (show cd_up I1 100 22 (nI s) 100 20 = nI s from (cd_up_k (by decide)).trans g1), (show cd_up I1 100 22 (nI s) 100 22 = nI s from cd_up_s), (show cd_up J1 100 21 0 100 21 = lN (ce_cdn x s (s - s)) by rw [Nat.sub_self]; exact cd_up_s), rfl, Nat.le_refl _⟩
  · intro ⟨I2, J2⟩ ⟨j2, f2, g20, g22, gj, ew, hsi⟩
    replace f2 : ∀ a k, ¬ (a = 100 ∧ (k = 20 ∨ k = 22)) → I2 a k = I a k := f2
    replace g22 : I2 100 22 = nI n := g22
    have t1 : I2 100 18 = nI n := (f2 _ _ (by omega)).trans ht.1
    have e2 : ce_we x n n = n := ce_end_n _ _
    refine cw_m (fun _ => cd_s154_10) ?_
    simp (disch := omega) only [cw_l0, cw_l1, cw_l2, cw_l3, cw_l4, cw_l5, cw_l6, cw_l7, cw_l8, cw_l9, cw_l10, cw_l11, cw_l12, cw_l13, cw_l14, cw_l15, cw_l16, cw_l17, cw_l18, cw_l19, cw_l20, cw_l27, cw_l28, cw_l31, cw_l32, cw_l40, cw_l52, cw_l60, cw_l61, cw_l63, cw_l64, cw_l80, cw_l97, cw_l99, cw_l100, cw_l255, cw_l500, cw_l999, cw_l65536, cd_inN, nI_clamp, nI_add, pk_mul, cw_subc, cw_zz, pk_div, cw_ltN, cw_eqN, cw_tf0, cw_tf1, cw_tfa, cw_bi, cw_bl, cw_bv, if_true, if_false, Bool.false_eq_true, Bool.true_eq_false, ite_self, cw_neg1, cw_m1a, cw_ztl, cw_zeq, cw_zadd, cw_znadd, cw_nzadd, cw_zsub, cw_zmul, cw_znmul, cw_nzmul, cw_ltNZ, cw_eqZN, cw_eqNZ, cw_ltZN, cw_on, cw_os, cw_c0, cw_c1, cw_c2, cw_c3, cw_c4, cw_c5, cw_c8, cw_c10, cw_c40, cw_c80, cw_c100, cp_144z, cp_140n, cw_mabs, cw_mod8, decide_eq_true_eq, not_false_eq_true, not_true_eq_false, true_and, and_true, false_and, and_false, decide_eq_false_iff_not, Nat.not_lt, Nat.not_le, if_pos, if_neg, g22, t1]
    refine cw_ret ⟨rfl, j2, f2, g20, ?_, ?_⟩
    · rw [ew, e2]; exact g22
    · rw [ew, e2]; exact gj
  · intro i ⟨I2, J2⟩ hi ⟨j2, f2, g20, g22, gj, ew, hsi⟩ K
    replace f2 : ∀ a k, ¬ (a = 100 ∧ (k = 20 ∨ k = 22)) → I2 a k = I a k := f2
    replace g22 : I2 100 22 = nI i := g22
    replace g20 : I2 100 20 = nI s := g20
    replace gj : J2 100 21 = lN (ce_cdn x s (i - s)) := gj
    replace j2 : ∀ a k, a ≠ 100 → J2 a k = J1 a k := j2
    have t1 : I2 100 18 = nI n := (f2 _ _ (by omega)).trans ht.1
    have t2 : I2 113 i = nI (x i) := (f2 _ _ (by omega)).trans (ht.2 i hi)
    have hxi := hx i
    have e2 : ce_we x n i = if !ce_let (x i) then i else ce_we x n (i + 1) := ce_end_st hi
    have c0 := cp_138L (L := L) (w := w) (I := I2) (J := J2) (c := x i) (lo := 97) (hi := 122) (by omega) (by decide) (by decide)
    rw [show (decide (97 ≤ x i) && decide (x i ≤ 122)) = ce_let (x i) from rfl] at c0
    have hcb := ce_cdn_b (s := s) hx (i - s)
    have K : ∀ y : Int64, y = lN (ce_cdn x s (i + 1 - s)) → ce_let (x i) = true → cw L w (cd_go 154 10 [.ref 100, .int r0] [] (cd_mm L w (cd_up I2 100 22 (nI (i + 1))) (cd_up J2 100 21 y))) _ := fun y hy hl => K (cd_up I2 100 22 (nI (i + 1)), cd_up J2 100 21 y) ⟨fun a k h => (cd_up_a h).trans (j2 a k h), fun a k h => (cd_up_k2 (by omega)).trans (f2 a k h), (show cd_up I2 100 22 (nI (i + 1)) 100 20 = nI s from (cd_up_k (by decide)).trans g20), (show cd_up I2 100 22 (nI (i + 1)) 100 22 = nI (i + 1) from cd_up_s), (show cd_up J2 100 21 y 100 21 = _ by rw [← hy]; exact cd_up_s), by rw [ew, e2, hl]; rfl, by omega⟩
    rw [show i + 1 - s = (i - s) + 1 by omega, show ce_cdn x s (i - s + 1) = if 1000000000000 < ce_cdn x s (i - s) then 2000000000000 else 27 * ce_cdn x s (i - s) + x (s + (i - s)) - 96 from rfl, show s + (i - s) = i by omega] at K
    show cw L w (cd_go 154 10 [.ref 100, .int r0] [] (cd_mm L w I2 J2)) _
    refine cw_m (fun _ => cd_s154_10) ?_
    rw [t1, g22, if_pos (nI_lt hi (by omega)), if_pos (cd_inN (by omega) (by decide)), nI_clamp (by omega), t2, show (97 : Int64) = lN 97 from rfl, show (122 : Int64) = lN 122 from rfl, c0, cw_bi]
    refine cw_m (fun _ => cd_s154_24) ?_
    cases hl : ce_let (x i) with
    | false =>
      rw [if_pos (show cd_tf false = 0 by decide)]
      rw [hl] at e2
      replace e2 : ce_we x n i = i := e2
      refine cw_ret ⟨rfl, j2, f2, g20, ?_, ?_⟩
      · rw [ew, e2]; exact g22
      · rw [ew, e2]; exact gj
    | true =>
      have hl2 := hl
      unfold ce_let at hl2
      rw [Bool.and_eq_true, decide_eq_true_eq, decide_eq_true_eq] at hl2
      have hlt : (0 < lg_cmp (J2 100 21) 1000000000000) ↔ 1000000000000 < ce_cdn x s (i - s) := by
        rw [lg_cmp_gt, gj, show (1000000000000 : Int64) = lN 1000000000000 from rfl]
        exact pk_lLT (by decide) (by omega)
      rw [if_neg (show ¬ cd_tf true = 0 by decide), g22, nI_1]
      by_cases hb : 1000000000000 < ce_cdn x s (i - s)
      · rw [if_pos (hlt.mpr hb)]
        rw [if_pos hb] at K
        exact K _ rfl hl
      · rw [if_neg (fun q => hb (hlt.mp q)), if_pos (cd_inN (by omega) (by decide)), nI_clamp (by omega), t2]
        rw [if_neg hb] at K
        refine K _ ?_ hl
        rw [gj, nI_l (by omega), show (27 : Int64) = lN 27 from rfl, show (96 : Int64) = lN 96 from rfl, lN_mul, lN_add, lN_sub (by omega)]
end CFD
