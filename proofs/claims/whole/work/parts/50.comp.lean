/-! ===== cells that are together ===== -/
def ce_ad (c d : Nat) : Prop := ∃ v, v < 4 ∧ ce_bes c v = some d
theorem ce_ad_lt {c d : Nat} (hc : c < 64) (h : ce_ad c d) : d < 64 := by
  obtain ⟨v, -, h⟩ := h
  exact ce_bes_lt hc h
theorem ce_ad_iff {c d : Nat} (hc : c < 64) : ce_ad c d ↔ d + 8 = c ∨ (d = c + 8 ∧ c < 56) ∨ (d + 1 = c ∧ 0 < c % 8) ∨ (d = c + 1 ∧ c % 8 < 7) := by
  constructor
  · intro ⟨v, hv, h⟩
    unfold ce_bes at h
    repeat' split at h
    all_goals first | cases h | skip
    all_goals omega
  · intro h
    rcases h with h | h | h | h
    · exact ⟨0, by decide, by unfold ce_bes; rw [if_pos rfl, if_pos (by omega)]; congr 1; omega⟩
    · exact ⟨1, by decide, by unfold ce_bes; rw [if_neg (by decide), if_pos rfl, if_pos (by omega)]; congr 1; omega⟩
    · exact ⟨2, by decide, by unfold ce_bes; rw [if_neg (by decide), if_neg (by decide), if_pos rfl, if_pos (by omega)]; congr 1; omega⟩
    · exact ⟨3, by decide, by unfold ce_bes; rw [if_neg (by decide), if_neg (by decide), if_neg (by decide), if_pos (by omega)]; congr 1; omega⟩
theorem ce_ad_sy {c d : Nat} (hc : c < 64) (h : ce_ad c d) : ce_ad d c := by
  have hd := ce_ad_lt hc h
  rw [ce_ad_iff hc] at h
  rw [ce_ad_iff hd]
  omega
/-- b is come to from a by n steps within P -/
def ce_rc (P : Nat → Bool) : Nat → Nat → Nat → Prop
  | 0, a, b => a = b
  | n + 1, a, b => ∃ e, ce_rc P n a e ∧ ce_ad e b ∧ P b = true
def ce_cn (P : Nat → Bool) (a b : Nat) : Prop := ∃ n, ce_rc P n a b
section CEN
variable {P : Nat → Bool}
theorem ce_rc_tr {n a b : Nat} (h : ce_rc P n a b) : ∀ {m c : Nat}, ce_rc P m b c → ce_rc P (n + m) a c := by
  intro m
  induction m with
  | zero => intro c h2; cases h2; exact h
  | succ m ih =>
    intro c ⟨e, h2, h3⟩
    exact ⟨e, ih h2, h3⟩
theorem ce_cn_tr {a b c : Nat} (h : ce_cn P a b) (h2 : ce_cn P b c) : ce_cn P a c := by
  obtain ⟨n, h⟩ := h
  obtain ⟨m, h2⟩ := h2
  exact ⟨n + m, ce_rc_tr h h2⟩
theorem ce_cn_rf (a : Nat) : ce_cn P a a := ⟨0, rfl⟩
theorem ce_rc_P {n a b : Nat} (ha : P a = true) (ha2 : a < 64) (h : ce_rc P n a b) : P b = true ∧ b < 64 := by
  induction n generalizing b with
  | zero => cases h; exact ⟨ha, ha2⟩
  | succ n ih =>
    obtain ⟨e, h1, h2, h3⟩ := h
    exact ⟨h3, ce_ad_lt (ih h1).2 h2⟩
theorem ce_cn_P {a b : Nat} (ha : P a = true) (ha2 : a < 64) (h : ce_cn P a b) : P b = true ∧ b < 64 := by
  obtain ⟨n, h⟩ := h
  exact ce_rc_P ha ha2 h
theorem ce_cn_st {a b : Nat} (h : ce_ad a b) (hb : P b = true) : ce_cn P a b := ⟨1, a, rfl, h, hb⟩
theorem ce_cn_sy {a b : Nat} (ha : P a = true) (ha2 : a < 64) (h : ce_cn P a b) : ce_cn P b a := by
  obtain ⟨n, h⟩ := h
  induction n generalizing b with
  | zero => cases h; exact ce_cn_rf _
  | succ n ih =>
    obtain ⟨e, h1, h2, h3⟩ := h
    obtain ⟨he, he2⟩ := ce_rc_P ha ha2 h1
    exact ce_cn_tr (ce_cn_st (ce_ad_sy he2 h2) he) (ih h1)
/-- the least cell that is together with a -/
noncomputable def ce_lb (P : Nat → Bool) (a : Nat) : Nat := (pk_least (ce_cn P a) ⟨a, ce_cn_rf a⟩).choose
theorem ce_lb_cn (a : Nat) : ce_cn P a (ce_lb P a) := (pk_least (ce_cn P a) ⟨a, ce_cn_rf a⟩).choose_spec.1
theorem ce_lb_le {a b : Nat} (h : ce_cn P a b) : ce_lb P a ≤ b := by
  have := (pk_least (ce_cn P a) ⟨a, ce_cn_rf a⟩).choose_spec.2 b
  exact Nat.le_of_not_lt fun q => this q h
theorem ce_lb_eq {a b : Nat} (ha : P a = true) (ha2 : a < 64) (h : ce_cn P a b) : ce_lb P a = ce_lb P b :=
  Nat.le_antisymm (ce_lb_le (ce_cn_tr h (ce_lb_cn b))) (ce_lb_le (ce_cn_tr (ce_cn_sy ha ha2 h) (ce_lb_cn a)))
theorem ce_lb_self (a : Nat) : ce_lb P a ≤ a := ce_lb_le (ce_cn_rf a)
theorem ce_lb_P {a : Nat} (ha : P a = true) (ha2 : a < 64) : P (ce_lb P a) = true ∧ ce_lb P a < 64 := ce_cn_P ha ha2 (ce_lb_cn a)
theorem ce_lb_lb {a : Nat} (ha : P a = true) (ha2 : a < 64) : ce_lb P (ce_lb P a) = ce_lb P a := (ce_lb_eq ha ha2 (ce_lb_cn a)).symm
/-- labels that no step betters are the least cells -/
theorem ce_lb_fix {l : Nat → Nat} (hl : ∀ c, c < 64 → P c = true → l c ≤ c ∧ ce_cn P c (l c)) (hf : ∀ c d, c < 64 → P c = true → ce_ad c d → P d = true → l c ≤ l d) {c : Nat} (hc : c < 64) (hP : P c = true) : l c = ce_lb P c := by
  have key : ∀ n b, ce_rc P n c b → l c = l b := by
    intro n
    induction n with
    | zero => intro b h; cases h; rfl
    | succ n ih =>
      intro b ⟨e, h1, h2, h3⟩
      obtain ⟨he, he2⟩ := ce_rc_P hP hc h1
      have a1 := hf e b he2 he h2 h3
      have a2 := hf b e (ce_ad_lt he2 h2) h3 (ce_ad_sy he2 h2) he
      rw [ih e h1]
      omega
  obtain ⟨n, hn⟩ := ce_lb_cn (P := P) c
  have h1 := key n _ hn
  have h2 := (ce_lb_P hP hc)
  have h3 := (hl _ h2.2 h2.1).1
  have h4 := ce_lb_le (hl c hc hP).2
  omega
end CEN
theorem ce_cn_cong {P Q : Nat → Bool} (h : ∀ c, c < 64 → P c = Q c) {a b : Nat} (ha2 : a < 64) (hc : ce_cn P a b) : ce_cn Q a b := by
  obtain ⟨n, hn⟩ := hc
  have key : ∀ n b, ce_rc P n a b → ce_rc Q n a b ∧ b < 64 := by
    intro n
    induction n with
    | zero => intro b h; cases h; exact ⟨rfl, ha2⟩
    | succ n ih =>
      intro b ⟨e, h1, h2, h3⟩
      obtain ⟨i1, i2⟩ := ih e h1
      have hb := ce_ad_lt i2 h2
      exact ⟨⟨e, i1, h2, by rw [← h b hb]; exact h3⟩, hb⟩
  exact ⟨n, (key n b hn).1⟩
theorem ce_lb_cong {P Q : Nat → Bool} (h : ∀ c, c < 64 → P c = Q c) {a : Nat} (ha2 : a < 64) : ce_lb P a = ce_lb Q a :=
  Nat.le_antisymm (ce_lb_le (ce_cn_cong (fun c hc => (h c hc).symm) ha2 (ce_lb_cn a))) (ce_lb_le (ce_cn_cong h ha2 (ce_lb_cn a)))
/-! ===== sums, counts ===== -/
def ce_ns (f : Nat → Nat) : Nat → Nat
  | 0 => 0
  | n + 1 => ce_ns f n + f n
theorem ce_ns_le {f g : Nat → Nat} : ∀ n, (∀ k, k < n → f k ≤ g k) → ce_ns f n ≤ ce_ns g n := by
  intro n
  induction n with
  | zero => intro _; exact Nat.le_refl 0
  | succ n ih =>
    intro h
    have h1 := ih (fun k hk => h k (by omega))
    have h2 := h n (by omega)
    show ce_ns f n + f n ≤ ce_ns g n + g n
    omega
theorem ce_ns_lt {f g : Nat → Nat} : ∀ n, (∀ k, k < n → f k ≤ g k) → ∀ c, c < n → f c < g c → ce_ns f n < ce_ns g n := by
  intro n
  induction n with
  | zero => intro _ c hc; omega
  | succ n ih =>
    intro h c hc hl
    show ce_ns f n + f n < ce_ns g n + g n
    have h2 := h n (by omega)
    by_cases hcn : c = n
    · subst hcn
      have h1 := ce_ns_le c (fun k hk => h k (by omega))
      omega
    · have h1 := ih (fun k hk => h k (by omega)) c (by omega) hl
      omega
def ce_any (p : Nat → Bool) : Nat → Bool
  | 0 => false
  | n + 1 => ce_any p n || p n
theorem ce_any_t {p : Nat → Bool} : ∀ {n : Nat}, ce_any p n = true ↔ ∃ k, k < n ∧ p k = true := by
  intro n
  induction n with
  | zero => exact ⟨fun h => (by cases h), fun ⟨k, h, _⟩ => absurd h (Nat.not_lt_zero k)⟩
  | succ n ih =>
    show (ce_any p n || p n) = true ↔ _
    rw [Bool.or_eq_true, ih]
    constructor
    · rintro (⟨k, h1, h2⟩ | h)
      · exact ⟨k, by omega, h2⟩
      · exact ⟨n, by omega, h⟩
    · intro ⟨k, h1, h2⟩
      by_cases hk : k = n
      · subst hk; exact Or.inr h2
      · exact Or.inl ⟨k, by omega, h2⟩
theorem ce_any_s (p : Nat → Bool) (n : Nat) : ce_any p (n + 1) = (ce_any p n || p n) := rfl
theorem ce_cnt_s (p : Nat → Bool) (n : Nat) : fa_cnt p (n + 1) = fa_cnt p n + if p n then 1 else 0 := by
  cases h : p n with
  | true => rw [fa_cnt_yes h]; rfl
  | false => rw [fa_cnt_no h]; rfl
/-! ===== rooms, light ===== -/
/-- the cells of which rooms for h are made -/
def ce_rm (D : cd_D) (S : cd_S) (h : Nat) : Nat → Bool := fun c => decide ((h : Int) ≤ cd_height D S c) && (cd_thAt D S c).isNone
/-- the room with the least cell f -/
noncomputable def ce_in (P : Nat → Bool) (f : Nat) : Nat → Bool := fun c => P c && decide (ce_lb P c = f)
noncomputable def ce_sz (P : Nat → Bool) (f : Nat) : Nat := fa_cnt (ce_in P f) 64
noncomputable def ce_nb (P : Nat → Bool) (c : Nat) : Nat := if P c && decide (ce_lb P c = c) then ce_sz P c else 0
/-- the greatest room among those with a least cell below n: its least cell, its size -/
noncomputable def ce_gr (P : Nat → Bool) : Nat → Option Nat × Nat
  | 0 => (none, 0)
  | n + 1 => if (ce_gr P n).2 < ce_nb P n then (some n, ce_nb P n) else ce_gr P n
noncomputable def ce_gt (P : Nat → Bool) : Option Nat := (ce_gr P 64).1
noncomputable def ce_szo (P : Nat → Bool) : Option Nat → Nat
  | none => 0
  | some f => ce_sz P f
noncomputable def ce_gs (P : Nat → Bool) : Nat := ce_szo P (ce_gt P)
def ce_cov (D : cd_D) (c : Nat) : Bool := ce_any (fun k => cd_und D k c) (D 0 1)
def ce_nr (D : cd_D) (c : Nat) : Nat → Nat
  | 0 => 100
  | n + 1 => if (if ce_cov D n then 100 else cd_stp c n) < ce_nr D c n then (if ce_cov D n then 100 else cd_stp c n) else ce_nr D c n
def ce_lit (D : cd_D) (c : Nat) : Nat := D 0 16 - D 0 17 * ce_nr D c 64
def ce_dor (D : cd_D) (S : cd_S) (c : Nat) : Bool := ce_any (fun v => match ce_bes c v with
  | none => false
  | some d => (cd_thAt D S d).isNone && !ce_cov D d) 4
noncomputable def ce_dro (D : cd_D) (S : cd_S) (P : Nat → Bool) : Option Nat → Nat
  | none => 0
  | some f => fa_cnt (fun c => ce_in P f c && ce_dor D S c) 64
noncomputable def ce_drs (D : cd_D) (S : cd_S) (P : Nat → Bool) : Nat := ce_dro D S P (ce_gt P)
noncomputable def ce_dk (D : cd_D) (P : Nat → Bool) (f : Nat) : Nat → Nat
  | 0 => 0
  | n + 1 => if ce_dk D P f n < (if ce_in P f n then ce_lit D n else 0) then (if ce_in P f n then ce_lit D n else 0) else ce_dk D P f n
noncomputable def ce_dko (D : cd_D) (P : Nat → Bool) : Option Nat → Int
  | none => -1
  | some f => (ce_dk D P f 64 : Int)
noncomputable def ce_drk (D : cd_D) (P : Nat → Bool) : Int := ce_dko D P (ce_gt P)
