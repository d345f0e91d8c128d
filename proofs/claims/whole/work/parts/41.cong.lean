/-! ===== events of like states ===== -/
section CEC2
variable {D : cd_D} {S S2 : cd_S}
theorem ce_geo.size (hD : cd_okD D) (h : ce_geo D S S2) (t : Nat) : ce_size D S t = ce_size D S2 t := by
  unfold ce_size
  rw [h.pull (fun k hk => h.draw hD hk), h.pull (fun k hk => h.draw hD hk)]
theorem ce_geo.slid (hD : cd_okD D) (h : ce_geo D S S2) {t : Nat} (ht : t < D 0 0) : ce_slid D S t = ce_slid D S2 t := by
  unfold ce_slid
  rw [h.pull (fun k hk => h.draw hD hk), h.pull (fun k hk => h.draw hD hk), h.1 t ht]
  congr 1
  funext c
  rw [h.thAt]
theorem ce_eqS.giv (hD : cd_okD D) (h : ce_eqS D S S2) {k : Nat} (hk : k < D 0 2) (b : Int) : ce_giv D S k b = ce_giv D S2 k b := by
  unfold ce_giv ce_most ce_dw
  rw [(h.2 k hk).1, (h.2 k hk).2, h.1.draw hD hk, h.1.draw hD hk, h.1.draw hD hk]
theorem ce_eqS.prs (hD : cd_okD D) (h : ce_eqS D S S2) (t : Nat) : ce_prs D S t = ce_prs D S2 t := by
  unfold ce_prs
  rw [h.1.pull (fun k hk => by rw [h.1.draw hD hk, (h.2 k hk).2])]
theorem ce_eqS.next (hD : cd_okD D) (h : ce_eqS D S S2) (o : Option Nat) (b : Nat) : ce_next D S o b = ce_next D S2 o b := by
  have e0 : ce_fst (ce_n0 D S o b) (D 0 2) 0 = ce_fst (ce_n0 D S2 o b) (D 0 2) 0 := ce_fst_cong (fun k _ hk => by unfold ce_n0; rw [h.1.held, h.giv hD (by omega)])
  have e1 : ce_fst (ce_n1 D S o b) (D 0 0) 0 = ce_fst (ce_n1 D S2 o b) (D 0 0) 0 := ce_fst_cong (fun t _ ht => by unfold ce_n1; rw [h.1.2.1, h.1.size hD])
  have e2 : ce_fst (ce_n2 D S o b) (D 0 0) 0 = ce_fst (ce_n2 D S2 o b) (D 0 0) 0 := ce_fst_cong (fun t _ ht => by unfold ce_n2; rw [h.prs hD, h.1.size hD, h.1.slid hD (by omega)])
  unfold ce_next
  rw [e0, e1, e2]
theorem ce_eqS.rf : ce_eqS D S S := ⟨ce_geo.rf, fun _ _ => ⟨rfl, rfl⟩⟩
theorem ce_eqS.sy (h : ce_eqS D S S2) : ce_eqS D S2 S := ⟨h.1.sy, fun k hk => ⟨(h.2 k hk).1.symm, (h.2 k hk).2.symm⟩⟩
end CEC2
/-! ===== what an event does, and a rest ===== -/
def ce_mv (D : cd_D) (S : cd_S) (t : Nat) : cd_S := fun r k => bif Nat.beq r 1 && Nat.beq k t then (ce_slid D S t).getD 0 else S r k
def ce_sL (S : cd_S) (m : Nat) : cd_S := fun r k => bif Nat.beq r 0 && Nat.beq k 1 then m else S r k
def ce_sH (S : cd_S) (m : Nat) : cd_S := fun r k => bif Nat.beq r 0 && Nat.beq k 2 then m else S r k
def ce_hap (D : cd_D) (S : cd_S) (e : Nat × Nat) : cd_S := if e.1 = 0 then ce_sH S (ce_msk (fun j => cd_held S j && !Nat.beq j e.2) (D 0 2)) else if e.1 = 1 then ce_sL S (ce_msk (fun t => (S 0 1).testBit t || Nat.beq t e.2) (D 0 0)) else ce_sH (ce_mv D S e.2) (ce_msk (fun j => cd_held S j && cd_und D (D 11 j) (ce_mv D S e.2 1 (D 12 j))) (D 0 2))
/-- a rest: events, and the state that it comes to -/
def ce_run (D : cd_D) : Nat → cd_S → Option Nat → Nat → List (Nat × Nat) × cd_S
  | 0, S, _, _ => ([], S)
  | n + 1, S, o, b => match ce_next D S o b with
    | none => ([], S)
    | some e => (e :: (ce_run D n (ce_hap D S e) none 0).1, (ce_run D n (ce_hap D S e) none 0).2)
def ce_okE (D : cd_D) (S : cd_S) (e : Nat × Nat) : Prop := (e.1 = 0 ∧ e.2 < D 0 2 ∧ cd_held S e.2 = true) ∨ (e.1 = 1 ∧ e.2 < D 0 0) ∨ (e.1 = 2 ∧ e.2 < D 0 0 ∧ ∃ c, ce_slid D S e.2 = some c)
theorem ce_run_s {D : cd_D} {n : Nat} {S : cd_S} {o : Option Nat} {b : Nat} : ce_run D (n + 1) S o b = match ce_next D S o b with
    | none => ([], S)
    | some e => (e :: (ce_run D n (ce_hap D S e) none 0).1, (ce_run D n (ce_hap D S e) none 0).2) := rfl
theorem ce_next_b {D : cd_D} {S : cd_S} {o : Option Nat} {b : Nat} {e : Nat × Nat} (h : ce_next D S o b = some e) : ce_okE D S e := by
  unfold ce_next at h
  cases h0 : ce_fst (ce_n0 D S o b) (D 0 2) 0 with
  | some k =>
    rw [h0] at h
    cases h
    obtain ⟨-, a, c, -⟩ := ce_fst_some h0
    unfold ce_n0 at c
    rw [Bool.and_eq_true] at c
    exact Or.inl ⟨rfl, by omega, c.1⟩
  | none =>
    rw [h0] at h
    dsimp only at h
    cases h1 : ce_fst (ce_n1 D S o b) (D 0 0) 0 with
    | some k =>
      rw [h1] at h
      cases h
      obtain ⟨-, a, -⟩ := ce_fst_some h1
      exact Or.inr (Or.inl ⟨rfl, by omega⟩)
    | none =>
      rw [h1] at h
      dsimp only at h
      cases h2 : ce_fst (ce_n2 D S o b) (D 0 0) 0 with
      | some k =>
        rw [h2] at h
        cases h
        obtain ⟨-, a, c, -⟩ := ce_fst_some h2
        unfold ce_n2 at c
        rw [Bool.and_eq_true] at c
        exact Or.inr (Or.inr ⟨rfl, by omega, Option.isSome_iff_exists.mp c.2⟩)
      | none => rw [h2] at h; cases h
theorem ce_slid_lt {D : cd_D} {S : cd_S} {t c : Nat} (ht : S 1 t < 64) (h : ce_slid D S t = some c) : c < 64 := by
  unfold ce_slid at h
  cases hb : ce_bes (S 1 t) (ce_way (ce_pull D S (ce_draw D S 0) t) (ce_pull D S (ce_draw D S 1) t)) with
  | none => rw [hb] at h; cases h
  | some d =>
    rw [hb] at h
    have hd := ce_bes_lt ht hb
    replace h : (if cd_thAt D S d = none then some d else none) = some c := h
    split at h
    · cases h; exact hd
    · cases h
theorem ce_hap_eqS {D : cd_D} {S S2 : cd_S} (hD : cd_okD D) (h : ce_eqS D S S2) {e : Nat × Nat} (he : e.1 < 2 ∨ e.2 < D 0 0) : ce_eqS D (ce_hap D S e) (ce_hap D S2 e) := by
  have hh := h.1.held
  unfold ce_hap
  by_cases h0 : e.1 = 0
  · rw [if_pos h0, if_pos h0]
    have em : ce_msk (fun j => cd_held S j && !Nat.beq j e.2) (D 0 2) = ce_msk (fun j => cd_held S2 j && !Nat.beq j e.2) (D 0 2) := ce_msk_cong _ (fun k _ => by rw [hh])
    exact ⟨⟨fun t ht => h.1.1 t ht, h.1.2.1, em⟩, h.2⟩
  · rw [if_neg h0, if_neg h0]
    by_cases h1 : e.1 = 1
    · rw [if_pos h1, if_pos h1]
      have em : ce_msk (fun t => (S 0 1).testBit t || Nat.beq t e.2) (D 0 0) = ce_msk (fun t => (S2 0 1).testBit t || Nat.beq t e.2) (D 0 0) := by rw [h.1.2.1]
      exact ⟨⟨fun t ht => h.1.1 t ht, em, h.1.2.2⟩, h.2⟩
    · rw [if_neg h1, if_neg h1]
      have ht : e.2 < D 0 0 := by omega
      have g1 : ∀ t, t < D 0 0 → ce_mv D S e.2 1 t = ce_mv D S2 e.2 1 t := fun t ht2 => by
        unfold ce_mv
        rw [h.1.slid hD ht, h.1.1 t ht2]
      have em : ce_msk (fun j => cd_held S j && cd_und D (D 11 j) (ce_mv D S e.2 1 (D 12 j))) (D 0 2) = ce_msk (fun j => cd_held S2 j && cd_und D (D 11 j) (ce_mv D S2 e.2 1 (D 12 j))) (D 0 2) := ce_msk_cong _ (fun k hk => by rw [hh, g1 _ (hD.2.2.2 k hk).2])
      exact ⟨⟨fun t ht => g1 t ht, h.1.2.1, em⟩, h.2⟩
theorem ce_run_eqS {D : cd_D} (hD : cd_okD D) : ∀ (n : Nat) {S S2 : cd_S} (o : Option Nat) (b : Nat), ce_eqS D S S2 → (ce_run D n S o b).1 = (ce_run D n S2 o b).1 ∧ ce_eqS D (ce_run D n S o b).2 (ce_run D n S2 o b).2 := by
  intro n
  induction n with
  | zero => intro S S2 o b h; exact ⟨rfl, h⟩
  | succ n ih =>
    intro S S2 o b h
    unfold ce_run
    rw [h.next hD]
    cases hn : ce_next D S2 o b with
    | none => exact ⟨rfl, h⟩
    | some e =>
      have hb := ce_next_b hn
      have := ih (S := ce_hap D S e) (S2 := ce_hap D S2 e) none 0 (ce_hap_eqS hD h (by unfold ce_okE at hb; omega))
      exact ⟨congrArg (e :: ·) this.1, this.2⟩
/-- what holds reaches its thing; what is no book weighs nothing -/
def ce_okR (D : cd_D) (S : cd_S) : Prop := ∀ k, k < D 0 2 → cd_held S k = true → cd_und D (D 11 k) (S 1 (D 12 k)) = true
theorem ce_hap_ok {D : cd_D} {S : cd_S} (hS : cd_okS D S) {e : Nat × Nat} (he : ce_okE D S e) : cd_okS D (ce_hap D S e) := by
  unfold ce_hap
  rcases he with ⟨h0, -⟩ | ⟨h1, -⟩ | ⟨h2, h8, c, hc⟩
  · rw [if_pos h0]
    exact ⟨hS.1, hS.2.1, ce_msk_lt _ _, hS.2.2.2⟩
  · rw [if_neg (by omega), if_pos h1]
    exact ⟨hS.1, ce_msk_lt _ _, hS.2.2⟩
  · rw [if_neg (by omega), if_neg (by omega)]
    refine ⟨fun t ht => ?_, hS.2.1, ce_msk_lt _ _, hS.2.2.2⟩
    show (bif Nat.beq 1 1 && Nat.beq t e.2 then (ce_slid D S e.2).getD 0 else S 1 t) < 64
    have := ce_slid_lt (hS.1 _ h8) hc
    rw [hc]
    cases (Nat.beq 1 1 && Nat.beq t e.2) with
    | true => exact this
    | false => exact hS.1 t ht
theorem ce_held_msk {f : Nat → Bool} {n k m : Nat} (h : (ce_msk f n).testBit k = m.testBit k) : m.testBit k = (decide (k < n) && f k) := by rw [← h, ce_msk_tb]
theorem ce_hap_okR {D : cd_D} {S : cd_S} (hR : ce_okR D S) {e : Nat × Nat} (he : ce_okE D S e) : ce_okR D (ce_hap D S e) := by
  unfold ce_hap
  rcases he with ⟨h0, -⟩ | ⟨h1, -⟩ | ⟨h2, h8, c, hc⟩
  · rw [if_pos h0]
    intro k hk hh
    have h3 : (ce_msk (fun j => cd_held S j && !Nat.beq j e.2) (D 0 2)).testBit k = true := hh
    rw [ce_msk_tb, Bool.and_eq_true, Bool.and_eq_true] at h3
    exact hR k hk h3.2.1
  · rw [if_neg (by omega), if_pos h1]
    exact hR
  · rw [if_neg (by omega), if_neg (by omega)]
    intro k hk hh
    have h3 : (ce_msk (fun j => cd_held S j && cd_und D (D 11 j) (ce_mv D S e.2 1 (D 12 j))) (D 0 2)).testBit k = true := hh
    rw [ce_msk_tb, Bool.and_eq_true, Bool.and_eq_true] at h3
    exact h3.2.2
theorem ce_run_ok {D : cd_D} : ∀ (n : Nat) {S : cd_S} (o : Option Nat) (b : Nat), cd_okS D S → cd_okS D (ce_run D n S o b).2 := by
  intro n
  induction n with
  | zero => intro S o b h; exact h
  | succ n ih =>
    intro S o b h
    unfold ce_run
    cases hn : ce_next D S o b with
    | none => exact h
    | some e => exact ih none 0 (ce_hap_ok h (ce_next_b hn))
theorem ce_run_okR {D : cd_D} : ∀ (n : Nat) {S : cd_S} (o : Option Nat) (b : Nat), ce_okR D S → ce_okR D (ce_run D n S o b).2 := by
  intro n
  induction n with
  | zero => intro S o b h; exact h
  | succ n ih =>
    intro S o b h
    unfold ce_run
    cases hn : ce_next D S o b with
    | none => exact h
    | some e => exact ih none 0 (ce_hap_okR h (ce_next_b hn))
theorem ce_run_len {D : cd_D} : ∀ (n : Nat) {S : cd_S} (o : Option Nat) (b : Nat), (ce_run D n S o b).1.length ≤ n := by
  intro n
  induction n with
  | zero => intro S o b; exact Nat.le_refl _
  | succ n ih =>
    intro S o b
    unfold ce_run
    cases hn : ce_next D S o b with
    | none => exact Nat.zero_le _
    | some e => exact Nat.succ_le_succ (ih none 0)
