/-! ===== what hangs on what of a state ===== -/
def ce_geo (D : cd_D) (S S2 : cd_S) : Prop := (∀ t, t < D 0 0 → S 1 t = S2 1 t) ∧ S 0 1 = S2 0 1 ∧ S 0 2 = S2 0 2
def ce_eqS (D : cd_D) (S S2 : cd_S) : Prop := ce_geo D S S2 ∧ ∀ k, k < D 0 2 → S 2 k = S2 2 k ∧ S 3 k = S2 3 k
theorem ce_last_cong {p q : Nat → Bool} : ∀ n, (∀ k, k < n → p k = q k) → cd_last p n = cd_last q n := by
  intro n
  induction n with
  | zero => intro _; rfl
  | succ n ih =>
    intro h
    unfold cd_last
    rw [h n (by omega), ih (fun k hk => h k (by omega))]
section CEC
variable {D : cd_D} {S S2 : cd_S}
theorem ce_geo.thAt (h : ce_geo D S S2) (c : Nat) : cd_thAt D S c = cd_thAt D S2 c := ce_last_cong _ (fun t ht => by rw [h.1 t ht])
theorem ce_geo.top (h : ce_geo D S S2) (t : Nat) : cd_top D S t = cd_top D S2 t := by unfold cd_top; rw [h.2.1]
theorem ce_geo.gnd (h : ce_geo D S S2) (c : Nat) : cd_gnd D S c = cd_gnd D S2 c := by
  unfold cd_gnd
  rw [h.thAt]
  split
  · rfl
  · exact h.top _
theorem ce_geo.held (h : ce_geo D S S2) (k : Nat) : cd_held S k = cd_held S2 k := by unfold cd_held; rw [h.2.2]
theorem ce_geo.hby (hD : cd_okD D) (h : ce_geo D S S2) {k : Nat} (hk : k < D 0 2) (c : Nat) : cd_hby D S k c = cd_hby D S2 k c := by
  unfold cd_hby
  rw [h.top, h.1 _ (hD.2.2.2 k hk).2]
theorem ce_geo.lr (hD : cd_okD D) (h : ce_geo D S S2) (j c : Nat) : ∀ n x, n ≤ D 0 2 → cd_lr D S j c n x = cd_lr D S2 j c n x := by
  intro n
  induction n with
  | zero => intro x _; rfl
  | succ n ih =>
    intro x hn
    unfold cd_lr
    rw [h.held, h.hby hD (by omega), ih _ (by omega)]
theorem ce_geo.leans (hD : cd_okD D) (h : ce_geo D S S2) (j c : Nat) : cd_leans D S j c = cd_leans D S2 j c := by
  unfold cd_leans
  rw [h.lr hD _ _ _ _ (Nat.le_refl _), h.gnd]
theorem ce_geo.hangs (hD : cd_okD D) (h : ce_geo D S S2) (j c : Nat) : cd_hangs D S j c = cd_hangs D S2 j c := by
  unfold cd_hangs
  rw [h.leans hD, h.gnd]
  cases hq : cd_leans D S2 j c with
  | none => rfl
  | some k => exact h.hby hD (cd_leans_lt hq) c
theorem ce_geo.height (hD : cd_okD D) (h : ce_geo D S S2) (c : Nat) : cd_height D S c = cd_height D S2 c := by
  unfold cd_height
  have : ∀ n, cd_hi D S c n = cd_hi D S2 c n := by
    intro n
    induction n with
    | zero => rfl
    | succ n ih => unfold cd_hi; rw [ih, h.hangs hD]
  exact this _
theorem ce_geo.T (hD : cd_okD D) (h : ce_geo D S S2) {q j c k : Nat} (hk : k < D 0 2) : ce_T D S q j c k = ce_T D S2 q j c k := by
  unfold ce_T ce_g
  rw [h.leans hD, h.1 _ (hD.2.2.2 k hk).2]
theorem ce_geo.draw (hD : cd_okD D) (h : ce_geo D S S2) {q k : Nat} (hk : k < D 0 2) : ce_draw D S q k = ce_draw D S2 q k := by
  unfold ce_draw ce_acc
  rw [ce_sum_cong (D 0 1) (fun i _ => ce_sum_cong 64 (fun c _ => h.T hD hk)), ce_sum_cong 0 (fun c _ => h.T hD hk)]
theorem ce_geo.pull (h : ce_geo D S S2) {f g : Nat → Int} (hf : ∀ k, k < D 0 2 → f k = g k) (t : Nat) : ce_pull D S f t = ce_pull D S2 g t := ce_sum_cong _ (fun k hk => by
  rw [h.held, hf k hk])
theorem ce_geo.rf : ce_geo D S S := ⟨fun _ _ => rfl, rfl, rfl⟩
theorem ce_geo.sy (h : ce_geo D S S2) : ce_geo D S2 S := ⟨fun t ht => (h.1 t ht).symm, h.2.1.symm, h.2.2.symm⟩
end CEC
