/-! ===== rests keep what may stand ===== -/
theorem ce_last_none {p : Nat → Bool} : ∀ {n : Nat}, cd_last p n = none → ∀ k, k < n → p k = false := by
  intro n
  induction n with
  | zero => intro _ k hk; omega
  | succ n ih =>
    intro h k hk
    unfold cd_last at h
    cases hp : p n with
    | true => rw [hp, if_pos rfl] at h; cases h
    | false =>
      rw [hp, if_neg (by decide)] at h
      by_cases hkn : k = n
      · rw [hkn, hp]
      · exact ih h k (by omega)
section CEI
variable {D : cd_D} {S S2 : cd_S}
theorem ce_thAt_none {c t : Nat} (h : cd_thAt D S c = none) (ht : t < D 0 0) : S 1 t ≠ c := fun q => by
  have := ce_last_none h t ht
  rw [q, Nat.beq_refl] at this
  cases this
theorem ce_slid_free {t c : Nat} (h : ce_slid D S t = some c) : cd_thAt D S c = none := by
  unfold ce_slid at h
  cases hb : ce_bes (S 1 t) (ce_way (ce_pull D S (ce_draw D S 0) t) (ce_pull D S (ce_draw D S 1) t)) with
  | none => rw [hb] at h; cases h
  | some d =>
    rw [hb] at h
    replace h : (if cd_thAt D S d = none then some d else none) = some c := h
    split at h
    · rename_i hq
      cases h
      exact hq
    · cases h
theorem ce_mv_at {t c u : Nat} (h : ce_slid D S t = some c) : ce_mv D S t 1 u = if u = t then c else S 1 u := by
  unfold ce_mv
  rw [h, cw_beq u t]
  by_cases hu : u = t
  · rw [decide_eq_true hu, if_pos hu]; rfl
  · rw [decide_eq_false hu, if_neg hu]; rfl
theorem ce_hap_inj (h : ce_inj D S) {e : Nat × Nat} (he : ce_okE D S e) : ce_inj D (ce_hap D S e) := by
  unfold ce_hap
  rcases he with ⟨h0, -⟩ | ⟨h1, -⟩ | ⟨h2, h8, c, hc⟩
  · rw [if_pos h0]; exact h
  · rw [if_neg (by omega), if_pos h1]; exact h
  · rw [if_neg (by omega), if_neg (by omega)]
    intro t u ht hu hq
    replace hq : ce_mv D S e.2 1 t = ce_mv D S e.2 1 u := hq
    rw [ce_mv_at hc, ce_mv_at hc] at hq
    have hn := fun v hv => ce_thAt_none (S := S) (t := v) (ce_slid_free hc) hv
    by_cases h3 : t = e.2
    · by_cases h4 : u = e.2
      · rw [h3, h4]
      · rw [if_pos h3, if_neg h4] at hq
        exact absurd hq.symm (hn u hu)
    · by_cases h4 : u = e.2
      · rw [if_neg h3, if_pos h4] at hq
        exact absurd hq (hn t ht)
      · rw [if_neg h3, if_neg h4] at hq
        exact h t u ht hu hq
theorem ce_hap_03 {e : Nat × Nat} : ce_hap D S e 0 3 = S 0 3 := by
  unfold ce_hap
  split
  · rfl
  · split
    · rfl
    · rfl
theorem ce_hap_okT (h : ce_okT D S) {e : Nat × Nat} (he : ce_okE D S e) : ce_okT D (ce_hap D S e) := ⟨ce_hap_ok h.1 he, ce_hap_okR h.2.1 he, ce_hap_inj h.2.2.1 he, fun k hk h2 => by
  rw [ce_hap_23 (by decide)] at h2 ⊢
  exact h.2.2.2.1 k hk h2, by rw [ce_hap_03]; exact h.2.2.2.2⟩
theorem ce_run_okT : ∀ (n : Nat) {S : cd_S} (o : Option Nat) (b : Nat), ce_okT D S → ce_okT D (ce_run D n S o b).2 := by
  intro n
  induction n with
  | zero => intro S o b h; exact h
  | succ n ih =>
    intro S o b h
    rw [ce_run_s]
    cases hn : ce_next D S o b with
    | none => exact h
    | some e => exact ih none 0 (ce_hap_okT h (ce_next_b hn))
theorem ce_run_23 : ∀ (n : Nat) {S : cd_S} (o : Option Nat) (b : Nat) {r k : Nat}, 2 ≤ r → (ce_run D n S o b).2 r k = S r k := by
  intro n
  induction n with
  | zero => intro S o b r k _; rfl
  | succ n ih =>
    intro S o b r k hr
    rw [ce_run_s]
    cases hn : ce_next D S o b with
    | none => rfl
    | some e => exact (ih none 0 hr).trans (ce_hap_23 hr)
theorem ce_run_03 : ∀ (n : Nat) {S : cd_S} (o : Option Nat) (b : Nat), (ce_run D n S o b).2 0 3 = S 0 3 := by
  intro n
  induction n with
  | zero => intro S o b; rfl
  | succ n ih =>
    intro S o b
    rw [ce_run_s]
    cases hn : ce_next D S o b with
    | none => rfl
    | some e => exact (ih none 0).trans ce_hap_03
theorem ce_run_ev (hD : cd_okD D) : ∀ (n : Nat) {S : cd_S} (o : Option Nat) (b : Nat) (j : Nat), j < (ce_run D n S o b).1.length → ((ce_run D n S o b).1.getD j (0, 0)).1 < 3 ∧ ((ce_run D n S o b).1.getD j (0, 0)).2 < 12 := by
  have h8 := hD.1.1
  have h12 := hD.1.2.2.1
  intro n
  induction n with
  | zero => intro S o b j hj; exact absurd hj (Nat.not_lt_zero j)
  | succ n ih =>
    intro S o b j
    rw [ce_run_s]
    cases hn : ce_next D S o b with
    | none => intro hj; exact absurd hj (Nat.not_lt_zero j)
    | some e =>
      intro hj
      cases j with
      | zero =>
        show e.1 < 3 ∧ e.2 < 12
        rcases ce_next_b hn with ⟨h, h2, -⟩ | ⟨h, h2⟩ | ⟨h, h2, -⟩ <;> omega
      | succ j => exact ih none 0 j (Nat.lt_of_succ_lt_succ hj)
theorem cd_refS.eqS {I : Nat → Nat → Int32} (hT : cd_refS D S I) (h : ce_eqS D S S2) : cd_refS D S2 I := by
  refine ⟨fun t ht => ?_, fun k hk => ?_⟩
  · rw [← h.1.1 t ht, ← h.1.2.1]; exact hT.1 t ht
  · rw [← (h.2 k hk).1, ← (h.2 k hk).2, ← h.1.2.2]; exact hT.2 k hk
theorem ce_geo.tr {S3 : cd_S} (h : ce_geo D S S2) (h2 : ce_geo D S2 S3) : ce_geo D S S3 := ⟨fun t ht => (h.1 t ht).trans (h2.1 t ht), h.2.1.trans h2.2.1, h.2.2.trans h2.2.2⟩
theorem ce_eqS.tr {S3 : cd_S} (h : ce_eqS D S S2) (h2 : ce_eqS D S2 S3) : ce_eqS D S S3 := ⟨h.1.tr h2.1, fun k hk => ⟨(h.2 k hk).1.trans (h2.2 k hk).1, (h.2 k hk).2.trans (h2.2 k hk).2⟩⟩
end CEI
section CEJ
variable {L : Nat} {w : Bool} {I : Nat → Nat → Int32} {J : Nat → Nat → Int64} {D : cd_D} {S : cd_S}
theorem cp_177w (hD : cd_okD D) (hS : cd_okS D S) (hR : cd_refD D I) (hT : cd_refS D S I) : cw L w (cd_c 177 [.ref 100] (cd_mm L w I J)) (fun v I1 J1 => v = none ∧ J1 = J ∧ (∀ a k, ¬ (117 ≤ a ∧ a ≤ 119) → I1 a k = I a k) ∧ ce_done D S I1) := by
  obtain ⟨I0, e0, f0, hN⟩ := cp_177 (L := L) (w := w) (J := J) hD hS hR hT
  exact cw_of e0 ⟨rfl, rfl, fun a k hx => f0 a k (by
    unfold ce_x177
    rw [Bool.and_eq_false_iff]
    by_cases h1 : 117 ≤ a
    · exact Or.inr (Bool.eq_false_iff.mpr fun q => by have := Nat.le_of_ble_eq_true q; omega)
    · exact Or.inl (Bool.eq_false_iff.mpr fun q => by have := Nat.le_of_ble_eq_true q; omega)), hN⟩
/-- goRest over a state that may stand -/
theorem cp_195w (hD : cd_okD D) (hS : ce_okT D S) (hR : cd_refD D I) (hT : cd_refS D S I) (h0 : I 100 38 = nI 0) {o : Option Nat} {b : Nat} (hb : b < 2 ^ 20) (ho : ∀ t, o = some t → t < 2 ^ 31) : cw L w (cd_c 195 [.ref 100, .int (cd_oi o), .int (nI b)] (cd_mm L w I J)) (fun v I1 J1 => v = some (.int (nI (ce_run D 60 S o b).1.length)) ∧ J1 = J ∧ (∀ a k, ¬ ce_x195 a k → I1 a k = I a k) ∧ (∀ j, j < (ce_run D 60 S o b).1.length → I1 122 j = nI ((ce_run D 60 S o b).1.getD j (0, 0)).1 ∧ I1 123 j = nI ((ce_run D 60 S o b).1.getD j (0, 0)).2) ∧ cd_refS D (ce_run D 60 S o b).2 I1) := by
  refine cw_mono (cp_195 hD hS.1 hR hT h0 hb ho) ?_
  intro v I1 J1 ⟨hv, hJ, hf, ha, S1, hT1, hS1, he, h23⟩
  obtain ⟨q1, q2⟩ := ce_run_eqS hD 60 o b (ce_eff_ok hS)
  rw [q1] at hv ha
  refine ⟨hv, hJ, hf, ha, hT1.eqS ⟨(ce_eff_geo.sy.tr (by rw [he]; exact ce_geo.rf)).tr q2.1, fun k hk => ?_⟩⟩
  rw [h23 2 k (by decide), h23 3 k (by decide), ce_run_23 _ _ _ (by decide), ce_run_23 _ _ _ (by decide)]
  exact ⟨rfl, rfl⟩
/-- nextEvent over a state that may stand -/
theorem cp_193w (hD : cd_okD D) (hS : ce_okT D S) (hR : cd_refD D I) (hT : cd_refS D S I) (h0 : I 100 38 = nI 0) {o : Option Nat} {b : Nat} (hb : b < 2 ^ 20) (ho : ∀ t, o = some t → t < 2 ^ 31) : cw L w (cd_c 193 [.ref 100, .int (cd_oi o), .int (nI b)] (cd_mm L w I J)) (fun v I1 J1 => v = some (.int (cd_oi ((ce_next D S o b).map Prod.fst))) ∧ J1 = J ∧ (∀ a k, ¬ (117 ≤ a ∧ a ≤ 119) → ¬ (a = 100 ∧ k = 39) → I1 a k = I a k)) := by
  refine cw_mono (cp_193 hD hS.1 hR hT h0 (by decide) hb ho) ?_
  intro v I1 J1 ⟨hv, hJ, hf, _⟩
  rw [(ce_eff_ok hS).next hD] at hv
  exact ⟨hv, hJ, hf⟩
end CEJ
