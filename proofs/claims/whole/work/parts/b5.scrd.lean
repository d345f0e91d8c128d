/-! ===== the class: words taken, numbers, stops ===== -/
theorem cf_wdr {x : Nat → Nat} {s : Nat} : ∀ (r : List Nat) (m : Nat), ce_wdr x s m r = true ↔ m = r.length ∧ ∀ i, i < r.length → x (s + i) = r.getD (r.length - 1 - i) 0 := by
  intro r
  induction r with
  | nil =>
    intro m
    cases m with
    | zero => exact ⟨fun _ => ⟨rfl, fun i hi => absurd hi (Nat.not_lt_zero i)⟩, fun _ => rfl⟩
    | succ m => exact ⟨fun h => absurd h (by show ¬ decide (m + 1 = 0) = true; rw [decide_eq_true_eq]; omega), fun h => absurd h.1 (by show ¬ m + 1 = 0; omega)⟩
  | cons c r ih =>
    intro m
    cases m with
    | zero => exact ⟨fun h => (by cases h), fun h => absurd h.1 (by show ¬ 0 = r.length + 1; omega)⟩
    | succ m =>
      show (decide (x (s + m) = c) && ce_wdr x s m r) = true ↔ _
      rw [Bool.and_eq_true, decide_eq_true_eq, ih]
      refine ⟨fun ⟨h1, h2, h3⟩ => ⟨by show m + 1 = r.length + 1; omega, fun i hi => ?_⟩, fun ⟨h1, h2⟩ => ?_⟩
      · replace hi : i < r.length + 1 := hi
        show x (s + i) = (c :: r).getD (r.length + 1 - 1 - i) 0
        by_cases hil : i = r.length
        · rw [hil, show r.length + 1 - 1 - r.length = 0 by omega, ← h2]
          exact h1
        · rw [show r.length + 1 - 1 - i = (r.length - 1 - i) + 1 by omega]
          exact h3 i (by omega)
      · replace h1 : m + 1 = r.length + 1 := h1
        have hm : m = r.length := by omega
        refine ⟨?_, hm, fun i hi => ?_⟩
        · have := h2 r.length (by show r.length < r.length + 1; omega)
          rw [show (c :: r).length - 1 - r.length = 0 by show r.length + 1 - 1 - r.length = 0; omega] at this
          rw [hm]
          exact this
        · have := h2 i (by show i < r.length + 1; omega)
          rw [show (c :: r).length - 1 - i = (r.length - 1 - i) + 1 by show r.length + 1 - 1 - i = _; omega] at this
          exact this
theorem cf_wdr_rev {x : Nat → Nat} {s m : Nat} (l : List Nat) : ce_wdr x s m l.reverse = true ↔ m = l.length ∧ ∀ i, i < l.length → x (s + i) = l.getD i 0 := by
  rw [cf_wdr, List.length_reverse]
  have e : ∀ i, i < l.length → l.reverse.getD (l.length - 1 - i) 0 = l.getD i 0 := fun i hi => by
    rw [List.getD_eq_getElem?_getD, List.getElem?_reverse (by omega), List.getD_eq_getElem?_getD, show l.length - 1 - (l.length - 1 - i) = i by omega]
  exact ⟨fun ⟨h1, h2⟩ => ⟨h1, fun i hi => by rw [h2 i hi, e i hi]⟩, fun ⟨h1, h2⟩ => ⟨h1, fun i hi => by rw [h2 i hi, e i hi]⟩⟩
theorem cf_strs : ∀ k, k < 15 → (cd_str (1000 + k)).length ≤ 7 ∧ 0 < (cd_str (1000 + k)).length ∧ (∀ i, i < 7 → (cd_str (1000 + k)).getD i 0 < 256) := by decide
/-- the word in hand, told from its end -/
def cf_isw (x : Nat → Nat) (n q : Nat) (r : List Nat) : Bool := ce_wdr x (ce_sk x n q) (ce_we x n (ce_sk x n q) - ce_sk x n q) r
theorem cf_we0 {x : Nat → Nat} {n s : Nat} (hs : s ≤ n) (h : s = n ∨ ce_let (x s) = false) : ce_we x n s = s := by
  unfold ce_we
  rcases h with h | h
  · rw [h, ce_end_n]
  · rcases Nat.lt_or_ge s n with q | q
    · rw [ce_end_st q]
      show (if (!ce_let (x s)) = true then s else ce_end (fun k => !ce_let (x k)) n (s + 1)) = s
      rw [h]
      rfl
    · rw [show s = n by omega, ce_end_n]
theorem cf_wdr0 {x : Nat → Nat} {s : Nat} {r : List Nat} (hr : 0 < r.length) : ce_wdr x s 0 r = false := by
  cases r with
  | nil => exact absurd hr (Nat.lt_irrefl 0)
  | cons c r => rfl
section CHD
variable {L : Nat} {w : Bool} {I : Nat → Nat → Int32} {J : Nat → Nat → Int64} {D : cd_D} {S : cd_S}
variable {x : Nat → Nat} {n q g : Nat}
def cf_f3 (I I1 : Nat → Nat → Int32) : Prop := ∀ a k, ¬ (a = 3 ∧ 2 ≤ k) → I1 a k = I a k
theorem cf_f3.tr {I1 I2 : Nat → Nat → Int32} (h : cf_f3 I I1) (h2 : cf_f3 I1 I2) : cf_f3 I I2 := fun a k g => (h2 a k g).trans (h a k g)
theorem cf_sk_le (hq : q ≤ n) : ce_sk x n q ≤ n := (ce_end_b (p := fun k => !decide (x k = 32)) hq).2.1
theorem cf_sk_ge (hq : q ≤ n) : q ≤ ce_sk x n q := (ce_end_b (p := fun k => !decide (x k = 32)) hq).1
theorem cf_we_b {s : Nat} (hs : s ≤ n) : s ≤ ce_we x n s ∧ ce_we x n s ≤ n := ⟨(ce_end_b (p := fun k => !ce_let (x k)) hs).1, (ce_end_b (p := fun k => !ce_let (x k)) hs).2.1⟩
theorem cf_de_b {s : Nat} (hs : s ≤ n) : s ≤ ce_de x n s ∧ ce_de x n s ≤ n ∧ ∀ k, s ≤ k → k < ce_de x n s → ce_dig (x k) = true := by
  have := ce_end_b (p := fun k => !ce_dig (x k)) hs
  refine ⟨this.1, this.2.1, fun k h1 h2 => ?_⟩
  have h := this.2.2.2 k h1 h2
  cases hd : ce_dig (x k) with
  | true => rfl
  | false => rw [hd] at h; cases h
theorem cf_dig_let {c : Nat} (h : ce_dig c = true) : ce_let c = false := by
  unfold ce_dig at h
  unfold ce_let
  rw [Bool.and_eq_true, decide_eq_true_eq, decide_eq_true_eq] at h
  rw [decide_eq_false (by omega), Bool.false_and]
theorem cp_17 (hn : n ≤ 500) (hx : ∀ k, x k < 256) (ht : cf_txt x n I) : cw L w (cd_c 17 [.ref 3] (cd_mm L w I J)) (fun v I1 J1 => v = none ∧ J1 = J ∧ cf_f3 I I1 ∧ cf_K x n 0 I1) := by
  refine cw_c (l := [_]) rfl rfl ?_
  refine cw_m (fun _ => cd_s17_0) ?_
  refine cw_cv (cw_mono (cp_16 (I := cd_up (cd_up (cd_up I 3 2 0) 3 7 0) 3 8 (-1)) (q := 0) hn hx (ht.of (fun a k h => by rw [cd_up_k2 (by omega), cd_up_k2 (by omega), cd_up_k2 (by omega)])) (Nat.zero_le _) (by rw [cd_up_k (by decide), cd_up_k (by decide), cd_up_s]; rfl)) ?_)
  intro v I1 J1 ⟨hv, hJ, f1, t1⟩
  refine ⟨hv, ?_⟩
  refine cw_m (fun _ => cd_s17_11) ?_
  have f : cf_f3 I I1 := fun a k h => by rw [f1 a k (by omega), cd_up_k2 (by omega), cd_up_k2 (by omega), cd_up_k2 (by omega)]
  refine cw_ret ⟨rfl, hJ, f, ht.of (fun a k h => f a k (by omega)), ⟨?_, ?_⟩, t1⟩
  · rw [f1 3 7 (by omega), cd_up_k (by decide), cd_up_s]; rfl
  · rw [f1 3 8 (by omega), cd_up_s]; rfl
theorem cp_19 (hK : cf_K x n q I) (hq : q ≤ n) : cd_c 19 [.ref 3] (cd_mm L w I J) = some (some (.int (cd_tf (decide (ce_sk x n q < n)))), cd_mm L w I J) := by
  obtain ⟨_, ⟨h7, _⟩, h4, k1, k2, k3, k0⟩ := hK
  refine cd_c_of (l := [_]) rfl rfl (cd_s19_0 ?_)
  rw [h7, if_pos (show nI 0 = 0 from rfl)]
  by_cases hs : ce_sk x n q < n
  · rw [decide_eq_true hs]
    cases hl : ce_let (x (ce_sk x n q)) with
    | true => rw [(k1 hs hl).1]; rfl
    | false =>
      cases hd : ce_dig (x (ce_sk x n q)) with
      | true => rw [(k2 hs hl hd).1]; rfl
      | false => rw [(k3 hs hl hd).1]; rfl
  · rw [decide_eq_false hs, (k0 hs).1]; rfl
theorem cf_Fl.ne {f p : Nat} (h : cf_Fl f p I) : ¬ I 3 7 = 0 := fun q => by
  rw [h.1] at q
  have := (nI_eq (b := 0) (by have := h.2.2; omega) (by decide)).mp q
  have := h.2.2
  omega
theorem cp_19f {f p : Nat} (h : cf_Fl f p I) : cd_c 19 [.ref 3] (cd_mm L w I J) = some (some (.int 0), cd_mm L w I J) := by
  refine cd_c_of (l := [_]) rfl rfl (cd_s19_0 ?_)
  rw [if_neg h.ne]
theorem cp_20 (hn : n ≤ 500) (hx : ∀ k, x k < 256) (hK : cf_K x n q I) (hq : q ≤ n) (hg : 1000 ≤ g ∧ g < 1015) : cd_c 20 [.ref 3, .ref g] (cd_mm L w I J) = some (some (.int (cd_tf (cf_isw x n q (cd_str g).reverse))), cd_mm L w I J) := by
  obtain ⟨⟨h1, h4t⟩, _, h4, k1, k2, k3, k0⟩ := hK
  obtain ⟨l7, l0, lc⟩ := cf_strs (g - 1000) (by omega)
  rw [show 1000 + (g - 1000) = g by omega] at l7 l0 lc
  have hsl := cf_sk_le (x := x) hq
  refine cw_eq (cw_c (l := [.ref 3, .ref g, .null]) rfl rfl ?_)
  refine cw_m (fun _ => cd_s20_0) ?_
  unfold cf_isw
  generalize hs : ce_sk x n q = s at *
  have nokind : (s = n ∨ ce_let (x s) = false) → ce_wdr x s (ce_we x n s - s) (cd_str g).reverse = false := fun h => by
    rw [cf_we0 hsl h, Nat.sub_self]
    exact cf_wdr0 (by rw [List.length_reverse]; exact l0)
  by_cases hsn : s < n
  · cases hl : ce_let (x s) with
    | false =>
      rw [nokind (Or.inr hl)]
      have hk : I 3 3 ≠ 1 := by
        cases hd : ce_dig (x s) with
        | true => rw [(k2 hsn hl hd).1]; decide
        | false => rw [(k3 hsn hl hd).1]; decide
      rw [if_neg hk]
      exact cw_ret ⟨rfl, rfl, rfl⟩
    | true =>
      obtain ⟨e3, e2⟩ := k1 hsn hl
      have wb := cf_we_b (x := x) hsl
      have hwd := cf_wdr_rev (x := x) (s := s) (m := ce_we x n s - s) (cd_str g)
      rw [e3, if_pos (show nI 1 = 1 from rfl), if_pos hg, e2, h4, cw_subc wb.1]
      by_cases hlen : ce_we x n s - s = (cd_str g).length
      · rw [if_pos (show nI (ce_we x n s - s) = Int32.ofNat (cd_str g).length by rw [hlen]; rfl)]
        rw [hlen] at hwd ⊢
        refine cw_up (L := L) (w := w) (Q := fun v2 I2 J2 => v2 = some (.int (cd_tf (ce_wdr x s (cd_str g).length (cd_str g).reverse))) ∧ I2 = I ∧ J2 = J) (fun i (_ : Unit) => cd_go 20 16 [.ref 3, .ref g, .int (nI i)] [] (cd_mm L w I J)) (fun i _ => ∀ j, j < i → x (s + j) = (cd_str g).getD j 0) (cd_str g).length ?_ ?_ 0 () (Nat.zero_le _) (fun j hj => absurd hj (Nat.not_lt_zero j))
        · intro _ hall
          refine cw_m (fun _ => cd_s20_16) ?_
          rw [if_pos hg, if_neg (show ¬ nI (cd_str g).length < Int32.ofNat (cd_str g).length from fun q => Int32.lt_irrefl q), hwd.mpr ⟨rfl, hall⟩]
          exact cw_ret ⟨rfl, rfl, rfl⟩
        · intro i _ hi hall K
          have hxi := hx (s + i)
          have hci := lc i (by omega)
          have hch : Int32.ofNat ((cd_str g).getD i 0) = nI ((cd_str g).getD i 0) := rfl
          refine cw_m (fun _ => cd_s20_16) ?_
          rw [if_pos hg, if_pos (show nI i < Int32.ofNat (cd_str g).length from nI_lt hi (by omega)), h4, nI_add, if_pos (cd_inN (by omega) (by decide)), if_pos ⟨hg.1, hg.2, cd_inN hi (by omega)⟩, nI_clamp (by omega), nI_clamp (by omega), h4t (s + i) (by omega), hch, nI_1]
          by_cases he : x (s + i) = (cd_str g).getD i 0
          · rw [if_pos (by rw [he])]
            refine K () (fun j hj => ?_)
            by_cases hji : j = i
            · rw [hji]; exact he
            · exact hall j (by omega)
          · rw [if_neg (fun q => he ((nI_eq (by omega) (by omega)).mp q))]
            have : ce_wdr x s (cd_str g).length (cd_str g).reverse = false := by
              cases hq : ce_wdr x s (cd_str g).length (cd_str g).reverse with
              | false => rfl
              | true => exact absurd ((hwd.mp hq).2 i hi) he
            rw [this]
            exact cw_ret ⟨rfl, rfl, rfl⟩
      · rw [if_neg (show ¬ nI (ce_we x n s - s) = Int32.ofNat (cd_str g).length from fun q => hlen ((nI_eq (by omega) (by omega)).mp q))]
        have : ce_wdr x s (ce_we x n s - s) (cd_str g).reverse = false := by
          cases hq : ce_wdr x s (ce_we x n s - s) (cd_str g).reverse with
          | false => rfl
          | true => exact absurd (hwd.mp hq).1 hlen
        rw [this]
        exact cw_ret ⟨rfl, rfl, rfl⟩
  · rw [nokind (Or.inl (by omega)), (k0 hsn).1, if_neg (show ¬ nI 0 = 1 by decide)]
    exact cw_ret ⟨rfl, rfl, rfl⟩
theorem cp_21n (hn : n ≤ 500) (hx : ∀ k, x k < 256) (hK : cf_K x n q I) (hq : q ≤ n) (hg : 1000 ≤ g ∧ g < 1015) (h : cf_isw x n q (cd_str g).reverse = false) : cd_c 21 [.ref 3, .ref g] (cd_mm L w I J) = some (some (.int 0), cd_mm L w I J) := by
  refine cw_eq (cw_c (l := [.ref 3, .ref g]) rfl rfl ?_)
  refine cw_m (fun _ => cd_s21_0) ?_
  rw [hK.2.1.1, if_pos (show nI 0 = 0 from rfl), cp_20 hn hx hK hq hg, h, cw_bi]
  refine cw_m (fun _ => cd_s21_6) ?_
  rw [if_pos (show cd_tf false = 0 from rfl)]
  exact cw_ret ⟨rfl, rfl, rfl⟩
theorem cp_21f {f p : Nat} (h : cf_Fl f p I) : cd_c 21 [.ref 3, .ref g] (cd_mm L w I J) = some (some (.int 0), cd_mm L w I J) := by
  refine cd_c_of (l := [.ref 3, .ref g]) rfl rfl (cd_s21_0 ?_)
  rw [if_neg h.ne]
theorem cp_21 (hn : n ≤ 500) (hx : ∀ k, x k < 256) (hK : cf_K x n q I) (hq : q ≤ n) (hg : 1000 ≤ g ∧ g < 1015) (h : cf_isw x n q (cd_str g).reverse = true) : cw L w (cd_c 21 [.ref 3, .ref g] (cd_mm L w I J)) (fun v I1 J1 => v = some (.int 1) ∧ J1 = J ∧ cf_f3 I I1 ∧ cf_K x n (ce_we x n (ce_sk x n q)) I1) := by
  have hsl := cf_sk_le (x := x) hq
  obtain ⟨l7, l0, lc⟩ := cf_strs (g - 1000) (by omega)
  rw [show 1000 + (g - 1000) = g by omega] at l7 l0 lc
  have hlt : ce_sk x n q < n ∧ ce_let (x (ce_sk x n q)) = true := by
    refine Classical.byContradiction (fun hc => ?_)
    have h0 : ce_sk x n q = n ∨ ce_let (x (ce_sk x n q)) = false := by
      by_cases h1 : ce_sk x n q < n
      · refine Or.inr ?_
        cases hl : ce_let (x (ce_sk x n q)) with
        | false => rfl
        | true => exact absurd ⟨h1, hl⟩ hc
      · exact Or.inl (by omega)
    unfold cf_isw at h
    rw [cf_we0 hsl h0, Nat.sub_self, cf_wdr0 (by rw [List.length_reverse]; exact l0)] at h
    cases h
  refine cw_c (l := [.ref 3, .ref g]) rfl rfl ?_
  refine cw_m (fun _ => cd_s21_0) ?_
  rw [hK.2.1.1, if_pos (show nI 0 = 0 from rfl), cp_20 hn hx hK hq hg, h, cw_bi]
  refine cw_m (fun _ => cd_s21_6) ?_
  rw [if_neg (show ¬ cd_tf true = 0 by decide)]
  refine cw_cv (cw_mono (cp_16 hn hx hK.1 (cf_we_b hsl).2 (hK.2.2.2.1 hlt.1 hlt.2).2) ?_)
  intro v I1 J1 ⟨hv, hJ, f1, t1⟩
  refine ⟨hv, ?_⟩
  refine cw_m (fun _ => cd_s21_11) ?_
  exact cw_ret ⟨rfl, hJ, fun a k h => f1 a k (by omega), hK.1.of (fun a k h => f1 a k (by omega)), ⟨(f1 _ _ (by omega)).trans hK.2.1.1, (f1 _ _ (by omega)).trans hK.2.1.2⟩, t1⟩
theorem cp_22f {f p : Nat} (h : cf_Fl f p I) {a b : Int32} : cd_c 22 [.ref 3, .int a, .int b] (cd_mm L w I J) = some (none, cd_mm L w I J) := by
  refine cd_c_of (l := [_, _, _]) rfl rfl (cd_s22_0 ?_)
  rw [if_neg h.ne]
theorem cp_22 (h : I 3 7 = nI 0) {a b : Int32} : cd_c 22 [.ref 3, .int a, .int b] (cd_mm L w I J) = some (none, cd_mm L w (cd_up (cd_up I 3 7 a) 3 8 b) J) := by
  refine cd_c_of (l := [_, _, _]) rfl rfl (cd_s22_0 ?_)
  rw [h, if_pos (show nI 0 = 0 from rfl)]
theorem cf_bl {f p : Nat} (h1 : 1 ≤ f) (h5 : f ≤ 5) : cf_Fl f p (cd_up (cd_up I 3 7 (nI f)) 3 8 (nI p)) := ⟨by rw [cd_up_k (by decide), cd_up_s], cd_up_s, h1, h5⟩
theorem cf_blf {a b : Int32} : cf_f3 I (cd_up (cd_up I 3 7 a) 3 8 b) := fun c k h => by rw [cd_up_k2 (by omega), cd_up_k2 (by omega)]
theorem cp_23f {f p : Nat} (h : cf_Fl f p I) {a b : Int32} : cd_c 23 [.ref 3, .int a, .int b] (cd_mm L w I J) = some (some (.int a), cd_mm L w I J) := by
  refine cd_c_of (l := [_, _, _, _]) rfl rfl (cd_s23_0 ?_)
  rw [if_neg h.ne]
/-- a number, or a fault -/
theorem cp_23 (hn : n ≤ 500) (hx : ∀ k, x k < 256) (hK : cf_K x n q I) (hq : q ≤ n) {lo hi : Nat} (hlo : lo < 1000) (hhi : hi < 1000) {loI hiI : Int32} (hL : loI = nI lo) (hI : hiI = zI ((hi : Int) - 1)) {Q : Option Value → (Nat → Nat → Int32) → (Nat → Nat → Int64) → Prop} {k : Int32 × cd_M → Option cd_Ret} (G : ∀ I1 u s e, ce_num x n lo hi q = .ok (u, s, e) → cf_f3 I I1 → cf_K x n e I1 → I1 3 6 = nI s → cw L w (k (nI u, cd_mm L w I1 J)) Q) (E : ∀ I1 f p, ce_num x n lo hi q = .error (f, p) → cf_f3 I I1 → cf_Fl f p I1 → cw L w (k (nI lo, cd_mm L w I1 J)) Q) : cw L w ((cd_ci (cd_c 23 [.ref 3, .int loI, .int hiI] (cd_mm L w I J))).bind k) Q := by
  subst hL hI
  have hsl := cf_sk_le (x := x) hq
  obtain ⟨ht, ⟨h7, h8⟩, h4, k1, k2, k3, k0⟩ := hK
  have r6 : ∀ j, j ≠ 6 → cd_up I 3 6 (I 3 4) 3 j = I 3 j := fun j h => cd_up_k h
  have ht6 : cf_txt x n (cd_up I 3 6 (I 3 4)) := ht.of (fun a k h => cd_up_k2 (by omega))
  -- what comes
  suffices hmain : cw L w (cd_c 23 [.ref 3, .int (nI lo), .int (zI ((hi : Int) - 1))] (cd_mm L w I J)) (fun v I1 J1 => J1 = J ∧ cf_f3 I I1 ∧ match ce_num x n lo hi q with
      | .ok (u, s, e) => v = some (.int (nI u)) ∧ cf_K x n e I1 ∧ I1 3 6 = nI s
      | .error (f, p) => v = some (.int (nI lo)) ∧ cf_Fl f p I1) by
    refine cw_ci (cw_mono hmain ?_)
    intro v I1 J1 ⟨hJ, f1, h⟩
    have hJ := hJ.symm
    subst hJ
    cases hr : ce_num x n lo hi q with
    | ok a =>
      rw [hr] at h
      obtain ⟨u, s, e⟩ := a
      exact ⟨_, h.1, G I1 u s e hr f1 h.2.1 h.2.2⟩
    | error b =>
      rw [hr] at h
      obtain ⟨f, p⟩ := b
      exact ⟨_, h.1, E I1 f p hr f1 h.2⟩
  refine cw_c (l := [_, _, _, _]) rfl rfl ?_
  refine cw_m (fun _ => cd_s23_0) ?_
  rw [h7, if_pos (show nI 0 = 0 from rfl), r6 3 (by decide), r6 2 (by decide), r6 4 (by decide), r6 5 (by decide), h4]
  have e7 : cd_up I 3 6 (nI (ce_sk x n q)) 3 7 = nI 0 := (cd_up_k (by decide)).trans h7
  have bad : ∀ f : Nat, 1 ≤ f → f ≤ 5 → ce_num x n lo hi q = .error (f, ce_sk x n q) → cw L w ((cd_cv (cd_c 22 [.ref 3, .int (nI f), .int (nI (ce_sk x n q))] (cd_mm L w (cd_up I 3 6 (nI (ce_sk x n q))) J))).bind fun m => some (some (.int (nI lo)), m)) (fun v I1 J1 => J1 = J ∧ cf_f3 I I1 ∧ match ce_num x n lo hi q with
      | .ok (u, s, e) => v = some (.int (nI u)) ∧ cf_K x n e I1 ∧ I1 3 6 = nI s
      | .error (f, p) => v = some (.int (nI lo)) ∧ cf_Fl f p I1) := fun f f1 f5 hr => by
    rw [cp_22 e7, cw_bv, hr]
    exact cw_ret ⟨rfl, fun a k h => by rw [cd_up_k2 (by omega), cd_up_k2 (by omega), cd_up_k2 (by omega)], rfl, cf_bl f1 f5⟩
  have bad2 : ∀ f : Nat, 1 ≤ f → f ≤ 5 → ce_num x n lo hi q = .error (f, ce_sk x n q) → cw L w ((cd_cv (cd_c 22 [.ref 3, .int (nI f), .int (nI (ce_sk x n q))] (cd_mm L w (cd_up I 3 6 (nI (ce_sk x n q))) J))).bind fun m => cd_go 23 40 [.ref 3, .int (nI lo), .int (zI ((hi : Int) - 1)), .null] [] m) (fun v I1 J1 => J1 = J ∧ cf_f3 I I1 ∧ match ce_num x n lo hi q with
      | .ok (u, s, e) => v = some (.int (nI u)) ∧ cf_K x n e I1 ∧ I1 3 6 = nI s
      | .error (f, p) => v = some (.int (nI lo)) ∧ cf_Fl f p I1) := fun f f1 f5 hr => by
    have := bad f f1 f5 hr
    rw [cp_22 e7, cw_bv] at this ⊢
    refine cw_m (fun _ => cd_s23_40) ?_
    exact this
  have e0 : ce_num x n lo hi q = if ce_sk x n q < n ∧ ce_dig (x (ce_sk x n q)) = true then (if 2 < ce_de x n (ce_sk x n q) - ce_sk x n q then .error (2, ce_sk x n q) else if lo ≤ ce_nm x (ce_sk x n q) (ce_de x n (ce_sk x n q) - ce_sk x n q) ∧ ce_nm x (ce_sk x n q) (ce_de x n (ce_sk x n q) - ce_sk x n q) < hi then .ok (ce_nm x (ce_sk x n q) (ce_de x n (ce_sk x n q) - ce_sk x n q), ce_sk x n q, ce_de x n (ce_sk x n q)) else .error (2, ce_sk x n q)) else .error (1, ce_sk x n q) := rfl
  by_cases hc : ce_sk x n q < n ∧ ce_dig (x (ce_sk x n q)) = true
  · obtain ⟨c1, c2⟩ := hc
    obtain ⟨g3, g2, g5⟩ := k2 c1 (cf_dig_let c2) c2
    obtain ⟨d1, d2, d3⟩ := cf_de_b (x := x) hsl
    rw [if_pos ⟨c1, c2⟩] at e0
    generalize hs : ce_sk x n q = s at *
    generalize he : ce_de x n s = e at *
    rw [g3, if_pos (show nI 2 = 2 from rfl), g2, g5, cw_subc d1]
    by_cases hlen : 2 < e - s
    · rw [if_pos hlen] at e0
      rw [if_pos (show (2 : Int32) < nI (e - s) from nI_lt (a := 2) hlen (by omega))]
      exact bad2 2 (by decide) (by decide) e0
    · rw [if_neg hlen] at e0
      have hval := cf_val_nm (x := x) (s := s) (i := e - s) (by omega) (fun j hj => d3 _ (by omega) (by omega))
      have hvb := cf_val_b (x := x) (s := s) (e - s)
      rw [← hval] at e0
      generalize cf_val x s (e - s) = u at *
      rw [if_neg (show ¬ (2 : Int32) < nI (e - s) from fun q => hlen ((nI_ltI (a := 2) (by decide) (by omega)).mp q))]
      by_cases h1 : u < lo
      · rw [if_neg (by omega)] at e0
        rw [if_pos (nI_lt h1 (by omega))]
        exact bad2 2 (by decide) (by decide) e0
      · rw [if_neg (fun q => h1 ((nI_ltI (by omega) (by omega)).mp q))]
        have hlt : (zI ((hi : Int) - 1) < nI u) ↔ ((hi : Int) - 1) < (u : Int) := by
          rw [← zI_n]
          exact zI_lt (by omega) (by omega) (by omega) (by omega)
        by_cases h2 : u < hi
        · rw [if_pos ⟨by omega, h2⟩] at e0
          rw [if_neg (fun q => by have := hlt.mp q; omega), e0]
          refine cw_cv (cw_mono (cp_16 (I := cd_up I 3 6 (nI s)) (q := e) hn hx (ht.of (fun a k h => cd_up_k2 (by omega))) d2 ((cd_up_k (by decide)).trans g2)) ?_)
          intro v I1 J1 ⟨hv, hJ, f1, t1⟩
          refine ⟨hv, ?_⟩
          refine cw_m (fun _ => cd_s23_47) ?_
          have f : cf_f3 I I1 := fun a k h => by rw [f1 a k (by omega), cd_up_k2 (by omega)]
          refine cw_ret ⟨hJ, f, rfl, ⟨ht.of (fun a k h => f a k (by omega)), ⟨?_, ?_⟩, t1⟩, ?_⟩
          · rw [f1 3 7 (by omega), cd_up_k (by decide)]; exact h7
          · rw [f1 3 8 (by omega), cd_up_k (by decide)]; exact h8
          · rw [f1 3 6 (by omega), cd_up_s]
        · rw [if_neg (by omega)] at e0
          rw [if_pos (hlt.mpr (by omega))]
          exact bad2 2 (by decide) (by decide) e0
  · rw [if_neg hc] at e0
    have hk : ¬ I 3 3 = 2 := by
      by_cases hs : ce_sk x n q < n
      · cases hl : ce_let (x (ce_sk x n q)) with
        | true => rw [(k1 hs hl).1]; decide
        | false =>
          cases hd : ce_dig (x (ce_sk x n q)) with
          | true => exact absurd ⟨hs, hd⟩ hc
          | false => rw [(k3 hs hl hd).1]; decide
      · rw [(k0 hs).1]; decide
    rw [if_neg hk]
    have := bad 1 (by decide) (by decide) e0
    rw [cp_22 e7, cw_bv] at this
    rw [show (1 : Int32) = nI 1 from rfl, cp_22 e7, cw_bv]
    refine cw_m (fun _ => cd_s23_18) ?_
    exact this
theorem cp_37f {f p : Nat} (h : cf_Fl f p I) : cd_c 37 [.ref 3] (cd_mm L w I J) = some (none, cd_mm L w I J) := by
  refine cd_c_of (l := [_]) rfl rfl (cd_s37_0 ?_)
  rw [if_neg h.ne]
theorem cp_37 (hn : n ≤ 500) (hx : ∀ k, x k < 256) (hK : cf_K x n q I) (hq : q ≤ n) : cw L w (cd_c 37 [.ref 3] (cd_mm L w I J)) (fun v I1 J1 => v = none ∧ J1 = J ∧ cf_f3 I I1 ∧ match ce_stop x n q with
    | .ok z => cf_K x n z I1
    | .error (f, p) => cf_Fl f p I1) := by
  have hsl := cf_sk_le (x := x) hq
  obtain ⟨ht, ⟨h7, h8⟩, h4, k1, k2, k3, k0⟩ := hK
  have e0 : ce_stop x n q = if ce_sk x n q < n ∧ x (ce_sk x n q) = 59 then .ok (ce_sk x n q + 1) else .error (1, ce_sk x n q) := rfl
  refine cw_c (l := [_]) rfl rfl ?_
  refine cw_m (fun _ => cd_s37_0) ?_
  rw [h7, if_pos (show nI 0 = 0 from rfl), h4]
  generalize ce_sk x n q = s at *
  have bad : ¬ (s < n ∧ x s = 59) → cw L w ((cd_cv (cd_c 22 [.ref 3, .int 1, .int (nI s)] (cd_mm L w I J))).bind fun m => cd_go 37 20 [.ref 3] [] m) (fun v I1 J1 => v = none ∧ J1 = J ∧ cf_f3 I I1 ∧ match ce_stop x n q with
      | .ok z => cf_K x n z I1
      | .error (f, p) => cf_Fl f p I1) := fun hc => by
    rw [if_neg hc] at e0
    rw [show (1 : Int32) = nI 1 from rfl, cp_22 h7, cw_bv, e0]
    refine cw_m (fun _ => cd_s37_20) ?_
    exact cw_ret ⟨rfl, rfl, cf_blf, cf_bl (by decide) (by decide)⟩
  by_cases hs : s < n
  · have hxs := hx s
    cases hl : ce_let (x s) with
    | true =>
      rw [(k1 hs hl).1, if_neg (show ¬ nI 1 = 3 by decide)]
      refine bad (fun q => ?_)
      rw [q.2] at hl
      exact absurd hl (by decide)
    | false =>
      cases hd : ce_dig (x s) with
      | true =>
        rw [(k2 hs hl hd).1, if_neg (show ¬ nI 2 = 3 by decide)]
        refine bad (fun q => ?_)
        rw [q.2] at hd
        exact absurd hd (by decide)
      | false =>
        obtain ⟨g3, g2⟩ := k3 hs hl hd
        rw [g3, if_pos (show nI 3 = 3 from rfl), if_pos (cd_inN (by omega) (by decide)), nI_clamp (by omega), ht.2 s hs]
        by_cases h59 : x s = 59
        · rw [if_pos ⟨hs, h59⟩] at e0
          rw [if_pos (show nI (x s) = 59 by rw [h59]; rfl), e0]
          refine cw_cv (cw_mono (cp_16 (q := s + 1) hn hx ht (by omega) g2) ?_)
          intro v I1 J1 ⟨hv, hJ, f1, t1⟩
          refine ⟨hv, ?_⟩
          refine cw_m (fun _ => cd_s37_23) ?_
          exact cw_ret ⟨rfl, hJ, fun a k h => f1 a k (by omega), ht.of (fun a k h => f1 a k (by omega)), ⟨(f1 _ _ (by omega)).trans h7, (f1 _ _ (by omega)).trans h8⟩, t1⟩
        · rw [if_neg (show ¬ nI (x s) = 59 from fun q => h59 ((nI_eq (b := 59) (by omega) (by decide)).mp q))]
          exact bad (fun q => h59 q.2)
  · rw [(k0 hs).1, if_neg (show ¬ nI 0 = 3 by decide)]
    exact bad (fun q => hs q.1)
theorem cp_31 (hn : n ≤ 500) (hx : ∀ k, x k < 256) (hK : cf_K x n q I) (hq : q ≤ n) : cw L w (cd_c 31 [.ref 3] (cd_mm L w I J)) (fun v I1 J1 => J1 = J ∧ cf_f3 I I1 ∧ match ce_kw x (ce_sk x n q) (ce_we x n (ce_sk x n q) - ce_sk x n q) with
    | some k => v = some (.int (nI k)) ∧ cf_K x n (ce_we x n (ce_sk x n q)) I1
    | none => v = some (.int (nI 4)) ∧ cf_Fl 1 (ce_sk x n q) I1) := by
  have e0 : ce_kw x (ce_sk x n q) (ce_we x n (ce_sk x n q) - ce_sk x n q) = if cf_isw x n q (cd_str 1003).reverse then some 0 else if cf_isw x n q (cd_str 1004).reverse then some 1 else if cf_isw x n q (cd_str 1005).reverse then some 2 else if cf_isw x n q (cd_str 1006).reverse then some 3 else if cf_isw x n q (cd_str 1007).reverse then some 4 else none := rfl
  rw [e0]
  refine cw_c (l := [_]) rfl rfl ?_
  refine cw_m (fun _ => cd_s31_0) ?_
  cases h1 : cf_isw x n q (cd_str 1003).reverse with
  | true =>
    rw [if_pos rfl]
    refine cw_ci (cw_mono (cp_21 hn hx hK hq (by decide) h1) ?_)
    intro v I1 J1 ⟨hv, hJ, f1, K1⟩
    refine ⟨_, hv, ?_⟩
    refine cw_m (fun _ => cd_s31_3) ?_
    rw [if_neg (show ¬ (1 : Int32) = 0 by decide)]
    exact cw_ret ⟨hJ, f1, rfl, K1⟩
  | false =>
    rw [if_neg (show ¬ false = true by decide), cp_21n hn hx hK hq (by decide) h1, cw_bi]
    refine cw_m (fun _ => cd_s31_3) ?_
    rw [if_pos (show (0 : Int32) = 0 from rfl)]
    cases h2 : cf_isw x n q (cd_str 1004).reverse with
    | true =>
      rw [if_pos rfl]
      refine cw_ci (cw_mono (cp_21 hn hx hK hq (by decide) h2) ?_)
      intro v I1 J1 ⟨hv, hJ, f1, K1⟩
      refine ⟨_, hv, ?_⟩
      refine cw_m (fun _ => cd_s31_9) ?_
      rw [if_neg (show ¬ (1 : Int32) = 0 by decide)]
      exact cw_ret ⟨hJ, f1, rfl, K1⟩
    | false =>
      rw [if_neg (show ¬ false = true by decide), cp_21n hn hx hK hq (by decide) h2, cw_bi]
      refine cw_m (fun _ => cd_s31_9) ?_
      rw [if_pos (show (0 : Int32) = 0 from rfl)]
      cases h3 : cf_isw x n q (cd_str 1005).reverse with
      | true =>
        rw [if_pos rfl]
        refine cw_ci (cw_mono (cp_21 hn hx hK hq (by decide) h3) ?_)
        intro v I1 J1 ⟨hv, hJ, f1, K1⟩
        refine ⟨_, hv, ?_⟩
        refine cw_m (fun _ => cd_s31_15) ?_
        rw [if_neg (show ¬ (1 : Int32) = 0 by decide)]
        exact cw_ret ⟨hJ, f1, rfl, K1⟩
      | false =>
        rw [if_neg (show ¬ false = true by decide), cp_21n hn hx hK hq (by decide) h3, cw_bi]
        refine cw_m (fun _ => cd_s31_15) ?_
        rw [if_pos (show (0 : Int32) = 0 from rfl)]
        cases h4 : cf_isw x n q (cd_str 1006).reverse with
        | true =>
          rw [if_pos rfl]
          refine cw_ci (cw_mono (cp_21 hn hx hK hq (by decide) h4) ?_)
          intro v I1 J1 ⟨hv, hJ, f1, K1⟩
          refine ⟨_, hv, ?_⟩
          refine cw_m (fun _ => cd_s31_21) ?_
          rw [if_neg (show ¬ (1 : Int32) = 0 by decide)]
          exact cw_ret ⟨hJ, f1, rfl, K1⟩
        | false =>
          rw [if_neg (show ¬ false = true by decide), cp_21n hn hx hK hq (by decide) h4, cw_bi]
          refine cw_m (fun _ => cd_s31_21) ?_
          rw [if_pos (show (0 : Int32) = 0 from rfl)]
          cases h5 : cf_isw x n q (cd_str 1007).reverse with
          | true =>
            rw [if_pos rfl]
            refine cw_ci (cw_mono (cp_21 hn hx hK hq (by decide) h5) ?_)
            intro v I1 J1 ⟨hv, hJ, f1, K1⟩
            refine ⟨_, hv, ?_⟩
            refine cw_m (fun _ => cd_s31_27) ?_
            rw [if_neg (show ¬ (1 : Int32) = 0 by decide)]
            refine cw_m (fun _ => cd_s31_33) ?_
            exact cw_ret ⟨hJ, f1, rfl, K1⟩
          | false =>
            rw [if_neg (show ¬ false = true by decide), cp_21n hn hx hK hq (by decide) h5, cw_bi]
            refine cw_m (fun _ => cd_s31_27) ?_
            rw [if_pos (show (0 : Int32) = 0 from rfl), hK.2.2.1, show (1 : Int32) = nI 1 from rfl, cp_22 hK.2.1.1, cw_bv]
            refine cw_m (fun _ => cd_s31_33) ?_
            exact cw_ret ⟨rfl, cf_blf, rfl, cf_bl (by decide) (by decide)⟩
end CHD
