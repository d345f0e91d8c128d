/-! ===== the class: towers, the rows ===== -/
/-- is the first row ahead of the second? -/
def cf_ah : List Nat → List Nat → Bool
  | [], _ => false
  | _ :: _, [] => false
  | a :: l, b :: r => if a = b then cf_ah l r else decide (a < b)
theorem cf_ah_irr : ∀ l, cf_ah l l = false := by
  intro l
  induction l with
  | nil => rfl
  | cons a l ih =>
    show (if a = a then cf_ah l l else decide (a < a)) = false
    rw [if_pos rfl, ih]
theorem cf_ah_tr : ∀ x y z, cf_ah x y = true → cf_ah y z = true → cf_ah x z = true := by
  intro x
  induction x with
  | nil => intro y z h; cases h
  | cons a x ih =>
    intro y z h1 h2
    cases y with
    | nil => cases h1
    | cons b y =>
      cases z with
      | nil => cases h2
      | cons c z =>
        replace h1 : (if a = b then cf_ah x y else decide (a < b)) = true := h1
        replace h2 : (if b = c then cf_ah y z else decide (b < c)) = true := h2
        show (if a = c then cf_ah x z else decide (a < c)) = true
        by_cases hab : a = b
        · rw [if_pos hab] at h1
          by_cases hbc : b = c
          · rw [if_pos hbc] at h2
            rw [if_pos (by omega)]
            exact ih y z h1 h2
          · rw [if_neg hbc, decide_eq_true_eq] at h2
            rw [if_neg (by omega)]
            exact decide_eq_true (by omega)
        · rw [if_neg hab, decide_eq_true_eq] at h1
          by_cases hbc : b = c
          · rw [if_neg (by omega)]
            exact decide_eq_true (by omega)
          · rw [if_neg hbc, decide_eq_true_eq] at h2
            rw [if_neg (by omega)]
            exact decide_eq_true (by omega)
theorem cf_ah_pre : ∀ p x y, cf_ah (p ++ x) (p ++ y) = cf_ah x y := by
  intro p
  induction p with
  | nil => intro x y; rfl
  | cons a p ih =>
    intro x y
    show (if a = a then cf_ah (p ++ x) (p ++ y) else decide (a < a)) = _
    rw [if_pos rfl, ih]
/-- a row that stands, from its lowest on -/
def cf_vr (D : cd_D) : List Nat → Nat → Prop
  | [], s => s = 0
  | t :: l, s => ce_cb D t s = true ∧ t < D 0 0 ∧ cf_vr D l (s ^^^ 2 ^ t)
def cf_lo (D : cd_D) (s : Nat) : Option Nat := ce_fst (fun t => ce_cb D t s) (D 0 0) 0
/-- the first row of a set -/
def cf_gl (D : cd_D) : Nat → Nat → List Nat
  | 0, _ => []
  | f + 1, s => match cf_lo D s with
    | none => []
    | some t => t :: cf_gl D f (s ^^^ 2 ^ t)
section CHA
variable {D : cd_D}
theorem cf_cb_tb {t s : Nat} (h : ce_cb D t s = true) : s.testBit t = true ∧ ce_B D t (s ^^^ 2 ^ t) = true ∧ ce_pile D (s ^^^ 2 ^ t) = true := by
  have h : (s.testBit t && (ce_B D t (s ^^^ 2 ^ t) && ce_pg (ce_B D) (D 0 0) (s ^^^ 2 ^ t))) = true := h
  rw [Bool.and_eq_true, Bool.and_eq_true] at h
  exact ⟨h.1, h.2.1, h.2.2⟩
theorem cf_pile_lo {s : Nat} (hs : s < 2 ^ D 0 0) : ce_pile D s = (decide (s = 0) || (cf_lo D s).isSome) := by
  unfold ce_pile
  rw [ce_pg_eq hs]
  congr 1
  rw [Bool.eq_iff_iff, ce_any_t]
  have := cf_fst_any (p := fun t => ce_cb D t s) (D 0 0) 0
  rw [show (cf_lo D s).isSome = (ce_fst (fun t => ce_cb D t s) (D 0 0) 0).isSome from rfl, this]
  exact ⟨fun ⟨k, h1, h2⟩ => ⟨k, Nat.zero_le _, by omega, h2⟩, fun ⟨k, _, h1, h2⟩ => ⟨k, by omega, h2⟩⟩
theorem cf_cb0 (t : Nat) : ce_cb D t 0 = false := by
  show ((0 : Nat).testBit t && _) = false
  rw [Nat.zero_testBit, Bool.false_and]
theorem cf_lo0 : cf_lo D 0 = none := cf_fst_no (fun j _ => cf_cb0 j)
theorem cf_gl0 : ∀ f, cf_gl D f 0 = [] := by
  intro f
  cases f with
  | zero => rfl
  | succ f =>
    show (match cf_lo D 0 with
      | none => []
      | some t => t :: cf_gl D f (0 ^^^ 2 ^ t)) = []
    rw [cf_lo0]
theorem cf_gl_vr : ∀ f s, s < 2 ^ D 0 0 → ce_pile D s = true → fa_cnt (fun k => s.testBit k) (D 0 0) ≤ f → cf_vr D (cf_gl D f s) s := by
  intro f
  induction f with
  | zero =>
    intro s hs _ hc
    exact ce_cnt_0 _ hs (by omega)
  | succ f ih =>
    intro s hs hp hc
    show cf_vr D (match cf_lo D s with
      | none => []
      | some t => t :: cf_gl D f (s ^^^ 2 ^ t)) s
    cases hl : cf_lo D s with
    | none =>
      rw [cf_pile_lo hs, hl] at hp
      have : decide (s = 0) = true := by
        cases hq : decide (s = 0) with
        | true => rfl
        | false => rw [hq] at hp; cases hp
      have : s = 0 := of_decide_eq_true this
      exact this
    | some t =>
      obtain ⟨_, g2, g3, _⟩ := ce_fst_some hl
      obtain ⟨c1, c2, c3⟩ := cf_cb_tb g3
      have ht : t < D 0 0 := by omega
      have := ce_cnt_flip c1 (D 0 0) ht
      exact ⟨g3, ht, ih _ (ce_xlt hs ht) c3 (by omega)⟩
/-- no row of the set is ahead of its first -/
theorem cf_gl_le : ∀ f s l, s < 2 ^ D 0 0 → fa_cnt (fun k => s.testBit k) (D 0 0) ≤ f → cf_vr D l s → l = cf_gl D f s ∨ cf_ah (cf_gl D f s) l = true := by
  intro f
  induction f with
  | zero =>
    intro s l hs hc hv
    have := ce_cnt_0 _ hs (show fa_cnt (fun k => s.testBit k) (D 0 0) = 0 by omega)
    subst this
    cases l with
    | nil => exact Or.inl rfl
    | cons t l => exact absurd hv.1 (by rw [cf_cb0]; decide)
  | succ f ih =>
    intro s l hs hc hv
    cases l with
    | nil =>
      have hv : s = 0 := hv
      subst hv
      rw [cf_gl0]
      exact Or.inl rfl
    | cons t l =>
      obtain ⟨v1, v2, v3⟩ := hv
      show t :: l = (match cf_lo D s with
        | none => []
        | some t => t :: cf_gl D f (s ^^^ 2 ^ t)) ∨ cf_ah (match cf_lo D s with
        | none => []
        | some t => t :: cf_gl D f (s ^^^ 2 ^ t)) (t :: l) = true
      cases hl : cf_lo D s with
      | none =>
        have := ce_fst_none hl t (Nat.zero_le _) (by omega)
        rw [v1] at this
        cases this
      | some u =>
        obtain ⟨_, g2, g3, g4⟩ := ce_fst_some hl
        rcases Nat.lt_trichotomy t u with q | q | q
        · have := g4 t (Nat.zero_le _) q
          rw [v1] at this
          cases this
        · subst q
          have := ce_cnt_flip (cf_cb_tb v1).1 (D 0 0) v2
          rcases ih _ l (ce_xlt hs v2) (by omega) v3 with h | h
          · exact Or.inl (by rw [h])
          · refine Or.inr ?_
            show (if t = t then cf_ah (cf_gl D f (s ^^^ 2 ^ t)) l else decide (t < t)) = true
            rw [if_pos rfl]
            exact h
        · refine Or.inr ?_
          show (if u = t then cf_ah (cf_gl D f (s ^^^ 2 ^ u)) l else decide (u < t)) = true
          rw [if_neg (by omega)]
          exact decide_eq_true q
theorem cf_su_x {r m t : Nat} (ht : m.testBit t = true) : ∀ n, t < n → ce_su D r (m ^^^ 2 ^ t) n + D r t = ce_su D r m n := by
  have low : ∀ n, n ≤ t → ce_su D r (m ^^^ 2 ^ t) n = ce_su D r m n := by
    intro n
    induction n with
    | zero => intro _; rfl
    | succ n ih =>
      intro hn
      show ce_su D r (m ^^^ 2 ^ t) n + (if (m ^^^ 2 ^ t).testBit n then D r n else 0) = ce_su D r m n + (if m.testBit n then D r n else 0)
      rw [ih (by omega), ce_xtb, decide_eq_false (show ¬ t = n by omega), Bool.xor_false]
  intro n
  induction n with
  | zero => intro h; omega
  | succ n ih =>
    intro hn
    show ce_su D r (m ^^^ 2 ^ t) n + (if (m ^^^ 2 ^ t).testBit n then D r n else 0) + D r t = ce_su D r m n + (if m.testBit n then D r n else 0)
    rw [ce_xtb]
    by_cases h : t = n
    · subst h
      rw [low t (Nat.le_refl _), ht, decide_eq_true rfl]
      show ce_su D r m t + 0 + D r t = ce_su D r m t + D r t
      omega
    · have := ih (by omega)
      rw [decide_eq_false h, Bool.xor_false]
      omega
/-- how high a row is -/
def cf_rh (D : cd_D) : List Nat → Nat
  | [] => 0
  | t :: l => D 1 t + cf_rh D l
theorem cf_vr_ht : ∀ l s, cf_vr D l s → ce_ht D s = cf_rh D l := by
  intro l
  induction l with
  | nil =>
    intro s h
    have h : s = 0 := h
    subst h
    have : ∀ n, ce_su D 1 0 n = 0 := by
      intro n
      induction n with
      | zero => rfl
      | succ n ih =>
        show ce_su D 1 0 n + (if (0 : Nat).testBit n then D 1 n else 0) = 0
        rw [ih, Nat.zero_testBit]
        rfl
    exact this _
  | cons t l ih =>
    intro s ⟨h1, h2, h3⟩
    have := cf_su_x (D := D) (r := 1) (cf_cb_tb h1).1 (D 0 0) h2
    have e := ih _ h3
    unfold ce_ht at e ⊢
    show _ = D 1 t + cf_rh D l
    omega
theorem cf_rh_app : ∀ a b, cf_rh D (a ++ b) = cf_rh D a + cf_rh D b := by
  intro a
  induction a with
  | nil => intro b; exact (Nat.zero_add _).symm
  | cons t a ih =>
    intro b
    show D 1 t + cf_rh D (a ++ b) = D 1 t + cf_rh D a + cf_rh D b
    rw [ih, Nat.add_assoc]
theorem cf_vr_len : ∀ l s, s < 2 ^ D 0 0 → cf_vr D l s → l.length = fa_cnt (fun k => s.testBit k) (D 0 0) := by
  intro l
  induction l with
  | nil =>
    intro s hs h
    have h : s = 0 := h
    subst h
    have : ∀ n, fa_cnt (fun k => (0 : Nat).testBit k) n = 0 := by
      intro n
      induction n with
      | zero => rfl
      | succ n ih => rw [ce_cnt_s, ih, Nat.zero_testBit]; rfl
    rw [this]
    rfl
  | cons t l ih =>
    intro s hs ⟨h1, h2, h3⟩
    have := ce_cnt_flip (cf_cb_tb h1).1 (D 0 0) h2
    have e := ih _ (ce_xlt hs h2) h3
    show l.length + 1 = _
    omega
/-- the row that is told: of a highest pile, and no other is ahead -/
def cf_best (D : cd_D) (B : List Nat) : Prop := (∃ s, s < 2 ^ D 0 0 ∧ cf_vr D B s ∧ ce_ht D s = ce_tall D) ∧ ∀ s l, s < 2 ^ D 0 0 → ce_ht D s = ce_tall D → cf_vr D l s → cf_ah l B = false
theorem cf_vr_pile : ∀ l s, s < 2 ^ D 0 0 → cf_vr D l s → ce_pile D s = true := by
  intro l
  cases l with
  | nil =>
    intro s hs h
    have h : s = 0 := h
    rw [cf_pile_lo hs, decide_eq_true h]
    rfl
  | cons t l =>
    intro s hs ⟨h1, h2, h3⟩
    rw [cf_pile_lo hs]
    have : (cf_lo D s).isSome = true := (cf_fst_any _ _).mpr ⟨t, Nat.zero_le _, by omega, h1⟩
    rw [this, Bool.or_true]
/-- the sets that are left behind a row's beginning -/
theorem cf_tz_row {B : List Nat} (hD : cd_okD D) (hB : cf_best D B) : ∀ j, j ≤ B.length → (∀ s l, s < 2 ^ D 0 0 → ce_tz D j s = true → cf_vr D l s → ∃ F, F < 2 ^ D 0 0 ∧ ce_ht D F = ce_tall D ∧ cf_vr D (B.take j ++ l) F) ∧ ∃ s, s < 2 ^ D 0 0 ∧ ce_tz D j s = true ∧ cf_vr D (B.drop j) s := by
  have tf : ∀ j, (hj : j < B.length) → (∀ s l, s < 2 ^ D 0 0 → ce_tz D j s = true → cf_vr D l s → ∃ F, F < 2 ^ D 0 0 ∧ ce_ht D F = ce_tall D ∧ cf_vr D (B.take j ++ l) F) → (∃ s, s < 2 ^ D 0 0 ∧ ce_tz D j s = true ∧ cf_vr D (B.drop j) s) → ce_tf D (ce_tz D j) = some B[j] := by
    intro j hj h1 ⟨s, s1, s2, s3⟩
    rw [List.drop_eq_getElem_cons hj] at s3
    obtain ⟨v1, v2, v3⟩ := s3
    refine cf_fst_is v2 (ce_any_t.mpr ⟨s, s1, by rw [s2, v1]; rfl⟩) (fun t ht => ?_)
    cases hq : ce_any (fun s => ce_tz D j s && ce_cb D t s) (2 ^ D 0 0) with
    | false => rfl
    | true =>
      obtain ⟨s', g1, g2⟩ := ce_any_t.mp hq
      rw [Bool.and_eq_true] at g2
      have htn : t < D 0 0 := by omega
      have hp := (cf_cb_tb g2.2).2.2
      have hx := ce_xlt g1 htn
      have hv := cf_gl_vr (D 0 0) _ hx hp (fa_cnt_le _ _)
      obtain ⟨F, f1, f2, f3⟩ := h1 s' (t :: cf_gl D (D 0 0) (s' ^^^ 2 ^ t)) g1 g2.1 ⟨g2.2, htn, hv⟩
      have := hB.2 F _ f1 f2 f3
      rw [show B = B.take j ++ (B[j] :: B.drop (j + 1)) by rw [← List.drop_eq_getElem_cons hj, List.take_append_drop]] at this
      rw [List.take_left' (by rw [List.length_take]; omega), cf_ah_pre] at this
      have e : cf_ah (t :: cf_gl D (D 0 0) (s' ^^^ 2 ^ t)) (B[j] :: B.drop (j + 1)) = true := by
        show (if t = B[j] then _ else decide (t < B[j])) = true
        rw [if_neg (by omega)]
        exact decide_eq_true ht
      rw [e] at this
      cases this
  intro j
  induction j with
  | zero =>
    intro _
    refine ⟨fun s l hs hz hv => ⟨s, hs, ?_, hv⟩, ?_⟩
    · have hz : (ce_pile D s && decide (ce_ht D s = ce_tall D)) = true := hz
      rw [Bool.and_eq_true, decide_eq_true_eq] at hz
      exact hz.2
    · obtain ⟨s, s1, s2, s3⟩ := hB.1
      refine ⟨s, s1, ?_, s2⟩
      show (ce_pile D s && decide (ce_ht D s = ce_tall D)) = true
      rw [cf_vr_pile _ _ s1 s2, decide_eq_true s3]
      rfl
  | succ j ih =>
    intro hj
    have hj' : j < B.length := hj
    obtain ⟨h1, h2⟩ := ih (by omega)
    have htf := tf j hj' h1 h2
    have etz : ∀ s, ce_tz D (j + 1) s = (!s.testBit B[j] && (ce_tz D j (s ||| 2 ^ B[j]) && ce_cb D B[j] (s ||| 2 ^ B[j]))) := fun s => by
      show (match ce_tf D (ce_tz D j) with
        | none => fun (_ : Nat) => false
        | some t => fun (s : Nat) => !s.testBit t && (ce_tz D j (s ||| 2 ^ t) && ce_cb D t (s ||| 2 ^ t))) s = _
      rw [htf]
    obtain ⟨s, s1, s2, s3⟩ := h2
    rw [List.drop_eq_getElem_cons hj'] at s3
    obtain ⟨v1, v2, v3⟩ := s3
    refine ⟨fun s' l hs hz hv => ?_, s ^^^ 2 ^ B[j], ce_xlt s1 v2, ?_, v3⟩
    · rw [etz, Bool.and_eq_true, Bool.and_eq_true] at hz
      obtain ⟨z1, z2, z3⟩ := hz
      have z1 : s'.testBit B[j] = false := by
        cases hq : s'.testBit B[j] with
        | false => rfl
        | true => rw [hq] at z1; cases z1
      have hor : s' ||| 2 ^ B[j] = s' ^^^ 2 ^ B[j] := by rw [ce_or_x, z1, if_neg (by decide)]
      have hv2 : cf_vr D (B[j] :: l) (s' ||| 2 ^ B[j]) := ⟨z3, v2, by rw [hor, ce_xor_xor]; exact hv⟩
      obtain ⟨F, f1, f2, f3⟩ := h1 (s' ||| 2 ^ B[j]) (B[j] :: l) (by rw [hor]; exact ce_xlt hs v2) z2 hv2
      refine ⟨F, f1, f2, ?_⟩
      rw [List.take_succ_eq_append_getElem hj', List.append_assoc]
      exact f3
    · have hb : (s ^^^ 2 ^ B[j]).testBit B[j] = false := by
        rw [ce_xtb, (cf_cb_tb v1).1, decide_eq_true rfl]
        rfl
      have hor : (s ^^^ 2 ^ B[j]) ||| 2 ^ B[j] = s := by rw [ce_or_x, hb, if_neg (by decide), ce_xor_xor]
      rw [etz, hb, hor, s2, v1]
      rfl
theorem cf_toA {B : List Nat} (hD : cd_okD D) (hB : cf_best D B) {x : Int32} : ce_toA D x = if x = -1 then nI (ce_tall D) else if ce_ix x B.length then nI (B.getD x.toNatClampNeg 0) else -1 := by
  have h8 := hD.1.1
  obtain ⟨s, s1, s2, s3⟩ := hB.1
  have hlen : B.length ≤ 8 := by rw [cf_vr_len _ _ s1 s2]; exact Nat.le_trans (fa_cnt_le _ _) h8
  have z0 : ∀ i, i < B.length → ce_tz D i 0 = false := fun i hi => by
    cases hq : ce_tz D i 0 with
    | false => rfl
    | true =>
      obtain ⟨F, f1, f2, f3⟩ := (cf_tz_row hD hB i (by omega)).1 0 [] ce_2pos hq rfl
      rw [List.append_nil] at f3
      have e1 := cf_vr_ht _ _ f3
      have e2 := cf_vr_ht _ _ s2
      have e3 := cf_rh_app (D := D) (B.take i) (B.drop i)
      rw [List.take_append_drop, List.drop_eq_getElem_cons hi] at e3
      have hv := (cf_tz_row hD hB i (by omega)).2
      obtain ⟨u, u1, u2, u3⟩ := hv
      rw [List.drop_eq_getElem_cons hi] at u3
      have ht := (hD.2.1 _ u3.2.1).1
      have : cf_rh D (B[i] :: B.drop (i + 1)) = D 1 B[i] + cf_rh D (B.drop (i + 1)) := rfl
      omega
  unfold ce_toA
  by_cases h1 : x = -1
  · rw [if_pos h1, if_pos h1]
  · rw [if_neg h1, if_neg h1]
    cases hx : ce_ix x B.length with
    | true =>
      obtain ⟨j, hj, rfl⟩ := ce_ix_t hx
      rw [if_pos rfl, nI_clamp (by omega), ce_ix_n (show j < 8 by omega) (by decide)]
      have hno : ce_any (fun i => decide (i ≤ j) && ce_tz D i 0) 8 = false := by
        cases hq : ce_any (fun i => decide (i ≤ j) && ce_tz D i 0) 8 with
        | false => rfl
        | true =>
          obtain ⟨i, _, g2⟩ := ce_any_t.mp hq
          rw [Bool.and_eq_true, decide_eq_true_eq] at g2
          rw [z0 i (by omega)] at g2
          exact absurd g2.2 (by decide)
      rw [hno]
      have hr := cf_tz_row hD hB (j + 1) hj
      -- the next thing
      have htf : ce_tf D (ce_tz D j) = some B[j] := by
        obtain ⟨u, u1, u2, _⟩ := hr.2
        have e : ce_tz D (j + 1) u = (match ce_tf D (ce_tz D j) with
          | none => fun (_ : Nat) => false
          | some t => fun (s : Nat) => !s.testBit t && (ce_tz D j (s ||| 2 ^ t) && ce_cb D t (s ||| 2 ^ t))) u := rfl
        cases hq : ce_tf D (ce_tz D j) with
        | none => rw [e, hq] at u2; cases u2
        | some t =>
          obtain ⟨w, w1, w2, w3⟩ := (cf_tz_row hD hB j (by omega)).2
          rw [List.drop_eq_getElem_cons hj] at w3
          obtain ⟨_, g2, g3, g4⟩ := ce_fst_some hq
          have hle : t ≤ B[j] := by
            rcases Nat.lt_or_ge B[j] t with q | q
            · have := g4 B[j] (Nat.zero_le _) q
              have e2 : ce_any (fun s => ce_tz D j s && ce_cb D B[j] s) (2 ^ D 0 0) = true := ce_any_t.mpr ⟨w, w1, by rw [w2, w3.1]; rfl⟩
              rw [e2] at this
              cases this
            · exact q
          have hge : B[j] ≤ t := by
            rcases Nat.lt_or_ge t B[j] with q | q
            · obtain ⟨s', g5, g6⟩ := ce_any_t.mp g3
              rw [Bool.and_eq_true] at g6
              have htn : t < D 0 0 := by omega
              have hp := (cf_cb_tb g6.2).2.2
              have hx := ce_xlt g5 htn
              have hv := cf_gl_vr (D 0 0) _ hx hp (fa_cnt_le _ _)
              obtain ⟨F, f1, f2, f3⟩ := (cf_tz_row hD hB j (by omega)).1 s' (t :: cf_gl D (D 0 0) (s' ^^^ 2 ^ t)) g5 g6.1 ⟨g6.2, htn, hv⟩
              have := hB.2 F _ f1 f2 f3
              have eB : B = B.take j ++ (B[j] :: B.drop (j + 1)) := by rw [← List.drop_eq_getElem_cons hj, List.take_append_drop]
              have e2 : cf_ah (B.take j ++ t :: cf_gl D (D 0 0) (s' ^^^ 2 ^ t)) B = cf_ah (t :: cf_gl D (D 0 0) (s' ^^^ 2 ^ t)) (B[j] :: B.drop (j + 1)) := by
                have q2 := cf_ah_pre (B.take j) (t :: cf_gl D (D 0 0) (s' ^^^ 2 ^ t)) (B[j] :: B.drop (j + 1))
                rw [← eB] at q2
                exact q2
              rw [e2] at this
              have e : cf_ah (t :: cf_gl D (D 0 0) (s' ^^^ 2 ^ t)) (B[j] :: B.drop (j + 1)) = true := by
                show (if t = B[j] then _ else decide (t < B[j])) = true
                rw [if_neg (by omega)]
                exact decide_eq_true q
              rw [e] at this
              cases this
            · exact q
          rw [show t = B[j] by omega]
      rw [htf]
      show nI B[j] = nI (B.getD j 0)
      rw [List.getD_eq_getElem?_getD, List.getElem?_eq_getElem hj]
      rfl
    | false =>
      rw [if_neg (show ¬ false = true by decide)]
      cases h8x : ce_ix x 8 with
      | false => rfl
      | true =>
        obtain ⟨j, hj, rfl⟩ := ce_ix_t h8x
        have hjl : B.length ≤ j := by
          rcases Nat.lt_or_ge j B.length with q | q
          · rw [ce_ix_n q (by omega)] at hx; cases hx
          · exact q
        have hz : ce_any (fun i => decide (i ≤ (nI j).toNatClampNeg) && ce_tz D i 0) 8 = true := by
          obtain ⟨u, u1, u2, u3⟩ := (cf_tz_row hD hB B.length (Nat.le_refl _)).2
          rw [List.drop_length] at u3
          have u3 : u = 0 := u3
          subst u3
          refine ce_any_t.mpr ⟨B.length, by omega, ?_⟩
          rw [nI_clamp (by omega), decide_eq_true hjl, u2]
          rfl
        rw [hz]
        rfl
end CHA
