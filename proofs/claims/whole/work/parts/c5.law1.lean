/-! ===== the law: each question answered alike ===== -/
section CLA
variable {L : Nat} {w : Bool} {I : Nat → Nat → Int32} {J : Nat → Nat → Int64} {D : cd_D} {S : cd_S}
variable {Y : ce_Y}
/-- class and reference answer alike, and stand alike behind -/
def cl_op {α : Type} (L : Nat) (mk : α → Value) (c r : cd_M → Option cd_Ret) (D : cd_D) (S : cd_S) (Y : ce_Y) (w : Bool) (I : Nat → Nat → Int32) (J : Nat → Nat → Int64) : Prop := ∃ (a : α) (D1 : cd_D) (S1 : cd_S) (Y1 : ce_Y) (w1 : Bool), ce_ok D1 S1 Y1 ∧ cw L w1 (c (cd_mm L w I J)) (cf_post (mk a) D1 S1 Y1 w1 I) ∧ ∀ (w : Bool) (I : Nat → Nat → Int32) (J : Nat → Nat → Int64), ce_M D S Y I → cw L w (r (cd_mm L w I J)) (ce_post (mk a) D1 S1 Y1 I J)
theorem cl_st {α : Type} {mk : α → Value} {c r : cd_M → Option cd_Ret} {a : α} (hK : ce_ok D S Y) (h : cw L w (c (cd_mm L w I J)) (cf_post (mk a) D S Y w I)) (g : ∀ (w : Bool) (I : Nat → Nat → Int32) (J : Nat → Nat → Int64), ce_M D S Y I → cw L w (r (cd_mm L w I J)) (ce_post (mk a) D S Y I J)) : cl_op L mk c r D S Y w I J := ⟨a, D, S, Y, w, hK, h, g⟩
theorem cl_st2 {α : Type} {mk : α → Value} {c r : cd_M → Option cd_Ret} {a : α} {D1 : cd_D} {S1 : cd_S} {Y1 : ce_Y} {w1 : Bool} (hK : ce_ok D1 S1 Y1) (h : cw L w1 (c (cd_mm L w I J)) (cf_post (mk a) D1 S1 Y1 w1 I)) (g : ∀ (w : Bool) (I : Nat → Nat → Int32) (J : Nat → Nat → Int64), ce_M D S Y I → cw L w (r (cd_mm L w I J)) (ce_post (mk a) D1 S1 Y1 I J)) : cl_op L mk c r D S Y w I J := ⟨a, D1, S1, Y1, w1, hK, h, g⟩
theorem ce_okY.SX {D : cd_D} {Y : ce_Y} (h : ce_okY D Y) {X : Nat → Nat} {n : Nat} (hn : n ≤ 500) (hX : ∀ j, X j < 256) : ce_okY D (ceSX Y X n) := ⟨⟨hn, h.1.2.1, h.1.2.2.1, h.1.2.2.2.1, h.1.2.2.2.2⟩, hX, h.2.2.1, h.2.2.2.1, h.2.2.2.2⟩
theorem ce_fed_lt (hK : ce_ok D S Y) {n : Nat} {y : Int64} (j : Nat) : ce_fed Y n y j < 256 := by
  unfold ce_fed
  split
  · exact hK.2.2.2.1 j
  · exact Nat.mod_lt _ (by decide)
theorem cl_i8 {x : Int32} (h : (decide (1 ≤ x) && decide (x ≤ 8)) = true) : ∃ n, 1 ≤ n ∧ n ≤ 8 ∧ x = nI n := by
  have h1 := (Bool.and_eq_true _ _).mp h
  have h99 : ce_i99 x = true := (Bool.and_eq_true _ _).mpr ⟨h1.1, decide_eq_true (Int32.le_trans (of_decide_eq_true h1.2) (by decide))⟩
  obtain ⟨t, t1, t2, rfl⟩ := ce_i99_t h99
  refine ⟨t, t1, ?_, rfl⟩
  have h8 := of_decide_eq_true h1.2
  by_cases h9 : t ≤ 8
  · exact h9
  · exact absurd h8 (Int32.not_le.mpr ((nI_ltI (a := 8) (by decide) (by omega)).mpr (by omega)))
theorem cl_m1 {x : Int32} (h : x = -1) : x = cd_oi none := h
theorem cl_46 (hK : ce_ok D S Y) (hM : cf_M D S Y w I J) : cl_op L Value.int (cd_c 46 [.ref 2]) (cd_c 171 [.ref 100]) D S Y w I J := by
  exact cl_st hK (cp_46 hM) (fun _ _ _ hR => cp_171 hR)
theorem cl_48 (hK : ce_ok D S Y) (hM : cf_M D S Y w I J) {x : Int32} : cl_op L Value.int (cd_c 48 [.ref 2, .int x]) (cd_c 184 [.ref 100, .int x]) D S Y w I J := by
  exact cl_st hK (cp_48 hK hM) (fun _ _ _ hR => cp_184 hK hR)
theorem cl_63 (hK : ce_ok D S Y) (hM : cf_M D S Y w I J) {x y : Int32} : cl_op L Value.int (cd_c 63 [.ref 2, .int x, .int y]) (cd_c 185 [.ref 100, .int x, .int y]) D S Y w I J := by
  cases h : ce_ix x (D 0 0) with
  | false => exact cl_st hK (cp_63n hK hM h) (fun _ _ _ hR => cp_185n hK hR h)
  | true =>
    obtain ⟨t, ht, rfl⟩ := ce_ix_t h
    exact cl_st hK (cp_63 hK hM ht) (fun _ _ _ hR => cp_185 hK hR ht)
theorem cl_67 (hK : ce_ok D S Y) (hM : cf_M D S Y w I J) {x y : Int32} : cl_op L Value.int (cd_c 67 [.ref 2, .int x, .int y]) (cd_c 186 [.ref 100, .int x, .int y]) D S Y w I J := by
  cases h : ce_ix x (D 0 2) with
  | false => exact cl_st hK (cp_67n hK hM h) (fun _ _ _ hR => cp_186n hK hR h)
  | true =>
    obtain ⟨t, ht, rfl⟩ := ce_ix_t h
    exact cl_st hK (cp_67 hK hM ht) (fun _ _ _ hR => cp_186 hK hR ht)
theorem cl_70 (hK : ce_ok D S Y) (hM : cf_M D S Y w I J) {x y : Int32} : cl_op L Value.int (cd_c 70 [.ref 2, .int x, .int y]) (cd_c 188 [.ref 100, .int x, .int y]) D S Y w I J := by
  cases h : ce_ix x (D 0 1) with
  | false => exact cl_st hK (cp_70n hK hM (Or.inl h)) (fun _ _ _ hR => cp_188n hK hR (Or.inl h))
  | true =>
    cases h2 : ce_ix y 64 with
    | false => exact cl_st hK (cp_70n hK hM (Or.inr h2)) (fun _ _ _ hR => cp_188n hK hR (Or.inr h2))
    | true =>
      obtain ⟨t, ht, rfl⟩ := ce_ix_t h
      obtain ⟨u, hu, rfl⟩ := ce_ix_t h2
      exact cl_st hK (cp_70 hK hM ht hu) (fun _ _ _ hR => cp_188 hK hR ht hu)
theorem cl_71 (hK : ce_ok D S Y) (hM : cf_M D S Y w I J) {x y : Int32} : cl_op L Value.int (cd_c 71 [.ref 2, .int x, .int y]) (cd_c 189 [.ref 100, .int x, .int y]) D S Y w I J := by
  cases h : ce_ix x (D 0 1) with
  | false => exact cl_st hK (cp_71n hK hM (Or.inl h)) (fun _ _ _ hR => cp_189n hK hR (Or.inl h))
  | true =>
    cases h2 : ce_ix y 64 with
    | false => exact cl_st hK (cp_71n hK hM (Or.inr h2)) (fun _ _ _ hR => cp_189n hK hR (Or.inr h2))
    | true =>
      obtain ⟨t, ht, rfl⟩ := ce_ix_t h
      obtain ⟨u, hu, rfl⟩ := ce_ix_t h2
      exact cl_st hK (cp_71 hK hM ht hu) (fun _ _ _ hR => cp_189 hK hR ht hu)
theorem cl_73 (hK : ce_ok D S Y) (hM : cf_M D S Y w I J) {x : Int32} : cl_op L Value.int (cd_c 73 [.ref 2, .int x]) (cd_c 191 [.ref 100, .int x]) D S Y w I J := by
  cases h : ce_ix x 64 with
  | false => exact cl_st hK (cp_73n hM h) (fun _ _ _ hR => cp_191n hK hR h)
  | true =>
    obtain ⟨t, ht, rfl⟩ := ce_ix_t h
    exact cl_st hK (cp_73 hK hM ht) (fun _ _ _ hR => cp_191 hK hR ht)
theorem cl_76 (hK : ce_ok D S Y) (hM : cf_M D S Y w I J) {x y : Int32} : cl_op L Value.int (cd_c 76 [.ref 2, .int x, .int y]) (cd_c 192 [.ref 100, .int x, .int y]) D S Y w I J := by
  cases h : ce_ix x (D 0 2) with
  | false => exact cl_st hK (cp_76n hK hM h) (fun _ _ _ hR => cp_192n hK hR h)
  | true =>
    cases h2 : ce_ix y 1000 with
    | false => exact cl_st hK (cp_76o hK hM h h2) (fun _ _ _ hR => cp_192o hK hR h h2)
    | true =>
      obtain ⟨t, ht, rfl⟩ := ce_ix_t h
      obtain ⟨u, hu, rfl⟩ := ce_ix_t h2
      exact cl_st hK (cp_76 hK hM ht hu) (fun _ _ _ hR => cp_192 hK hR ht hu)
theorem cl_83 (hK : ce_ok D S Y) (hM : cf_M D S Y w I J) {x y : Int32} : cl_op L Value.int (cd_c 83 [.ref 2, .int x, .int y]) (cd_c 197 [.ref 100, .int x, .int y]) D S Y w I J := by
  by_cases h1 : x = -1
  · rw [h1]
    exact cl_st2 (hK.run none 0) (cp_83m hK hM) (fun _ _ _ hR => cp_197m hK hR)
  · cases h : ce_ix x (D 0 0) with
    | false => exact cl_st hK (cp_83n hK hM h1 h) (fun _ _ _ hR => cp_197n hK hR h1 h)
    | true =>
      cases h2 : ce_ix y 1000 with
      | false => exact cl_st hK (cp_83o hK hM h1 h h2) (fun _ _ _ hR => cp_197o hK hR h1 h h2)
      | true =>
        obtain ⟨t, ht, rfl⟩ := ce_ix_t h
        obtain ⟨u, hu, rfl⟩ := ce_ix_t h2
        exact cl_st2 (hK.run (some t) u) (cp_83 hK hM ht hu) (fun _ _ _ hR => cp_197 hK hR ht hu)
theorem cl_84 (hK : ce_ok D S Y) (hM : cf_M D S Y w I J) {x y : Int32} : cl_op L Value.int (cd_c 84 [.ref 2, .int x, .int y]) (cd_c 198 [.ref 100, .int x, .int y]) D S Y w I J := by
  exact cl_st hK (cp_84 hK hM) (fun _ _ _ hR => cp_198 hK hR)
theorem cl_85 (hK : ce_ok D S Y) (hM : cf_M D S Y w I J) : cl_op L Value.int (cd_c 85 [.ref 2]) (cd_c 199 [.ref 100]) D S Y w I J := by
  exact cl_st hK (cp_85 hK hM) (fun _ _ _ hR => cp_199 hK hR)
theorem cl_86 (hK : ce_ok D S Y) (hM : cf_M D S Y w I J) {x y : Int32} : cl_op L Value.int (cd_c 86 [.ref 2, .int x, .int y]) (cd_c 200 [.ref 100, .int x, .int y]) D S Y w I J := by
  cases h : ce_ix x (D 0 0) with
  | false => exact cl_st hK (cp_86n hK hM h) (fun _ _ _ hR => cp_200n hK hR h)
  | true =>
    cases h2 : ce_ix y 1000 with
    | false => exact cl_st hK (cp_86o hK hM h h2) (fun _ _ _ hR => cp_200o hK hR h h2)
    | true =>
      obtain ⟨t, ht, rfl⟩ := ce_ix_t h
      obtain ⟨u, hu, rfl⟩ := ce_ix_t h2
      exact cl_st hK (cp_86 hK hM ht hu) (fun _ _ _ hR => cp_200 hK hR ht hu)
theorem cl_87 (hK : ce_ok D S Y) (hM : cf_M D S Y w I J) {x : Int32} : cl_op L Value.int (cd_c 87 [.ref 2, .int x]) (cd_c 201 [.ref 100, .int x]) D S Y w I J := by
  cases h : ce_ix x (D 0 0) with
  | false => exact cl_st hK (cp_87n hK hM h) (fun _ _ _ hR => cp_201n hK hR h)
  | true =>
    obtain ⟨t, ht, rfl⟩ := ce_ix_t h
    exact cl_st hK (cp_87 hK hM ht) (fun _ _ _ hR => cp_201 hK hR ht)
theorem cl_101 (hK : ce_ok D S Y) (hM : cf_M D S Y w I J) {x y : Int32} : cl_op L Value.int (cd_c 101 [.ref 2, .int x, .int y]) (cd_c 212 [.ref 100, .int x, .int y]) D S Y w I J := by
  cases h : ce_ih x with
  | false => exact cl_st hK (cp_101n hM (Or.inl h)) (fun _ _ _ hR => cp_212n hR (Or.inl h))
  | true =>
    cases h2 : ce_ix y 4 with
    | false => exact cl_st hK (cp_101n hM (Or.inr h2)) (fun _ _ _ hR => cp_212n hR (Or.inr h2))
    | true =>
      obtain ⟨t, h1, h3, rfl⟩ := ce_ih_t h
      exact cl_st hK (cp_101 hK hM h1 h3 h2) (fun _ _ _ hR => cp_212 hK hR h1 h3 h2)
theorem cl_102 (hK : ce_ok D S Y) (hM : cf_M D S Y w I J) {x : Int32} : cl_op L Value.long (cd_c 102 [.ref 2, .int x]) (cd_c 213 [.ref 100, .int x]) D S Y w I J := by
  cases h : ce_ih x with
  | false => exact cl_st hK (cp_102n hM h) (fun _ _ _ hR => cp_213n hR h)
  | true =>
    obtain ⟨t, h1, h3, rfl⟩ := ce_ih_t h
    exact cl_st hK (cp_102 hK hM h1 h3) (fun _ _ _ hR => cp_213 hK hR h1 h3)
theorem cl_104 (hK : ce_ok D S Y) (hM : cf_M D S Y w I J) {x : Int32} : cl_op L Value.int (cd_c 104 [.ref 2, .int x]) (cd_c 214 [.ref 100, .int x]) D S Y w I J := by
  cases h : ce_ih x with
  | false => exact cl_st hK (cp_104n hM h) (fun _ _ _ hR => cp_214n hR h)
  | true =>
    obtain ⟨t, h1, h3, rfl⟩ := ce_ih_t h
    exact cl_st hK (cp_104 hK hM h1 h3) (fun _ _ _ hR => cp_214 hK hR h1 h3)
theorem cl_105 (hK : ce_ok D S Y) (hM : cf_M D S Y w I J) {x : Int32} : cl_op L Value.int (cd_c 105 [.ref 2, .int x]) (cd_c 215 [.ref 100, .int x]) D S Y w I J := by
  cases h : ce_ix x 64 with
  | false => exact cl_st hK (cp_105n hM h) (fun _ _ _ hR => cp_215n hR h)
  | true =>
    obtain ⟨t, ht, rfl⟩ := ce_ix_t h
    exact cl_st hK (cp_105 hK hM ht) (fun _ _ _ hR => cp_215 hK hR ht)
theorem cl_112 (hK : ce_ok D S Y) (hM : cf_M D S Y w I J) {x y z u : Int32} : cl_op L Value.int (cd_c 112 [.ref 2, .int x, .int y, .int z, .int u]) (cd_c 222 [.ref 100, .int x, .int y, .int z, .int u]) D S Y w I J := by
  have hu : (¬ u = -1 ∧ ce_ix u (D 0 2) = false) ∨ ∃ o, (∀ k, o = some k → k < D 0 2) ∧ u = cd_oi o := by
    by_cases h1 : u = -1
    · exact Or.inr ⟨none, (fun k q => by cases q), h1⟩
    · cases h2 : ce_ix u (D 0 2) with
      | false => exact Or.inl ⟨h1, rfl⟩
      | true =>
        obtain ⟨t, ht, e⟩ := ce_ix_t h2
        exact Or.inr ⟨some t, (fun k q => by cases q; exact ht), e⟩
  rcases hu with ⟨h1, h2⟩ | ⟨o, ho, rfl⟩
  · exact cl_st hK (cp_112u hK hM h1 h2) (fun _ _ _ hR => cp_222u hK hR h1 h2)
  · have h12 := hK.1.1.2.2.1
    have hw : cd_oi o = -1 ∨ ce_ix (cd_oi o) (D 0 2) = true := by
      cases o with
      | none => exact Or.inl rfl
      | some k => exact Or.inr (ce_ix_n (ho k rfl) (by omega))
    cases h : ce_ih x with
    | false => exact cl_st hK (cp_112o hK hM hw (Or.inl h)) (fun _ _ _ hR => cp_222o hK hR hw (Or.inl h))
    | true =>
      cases h2 : ce_ix y 13 with
      | false => exact cl_st hK (cp_112o hK hM hw (Or.inr (Or.inl h2))) (fun _ _ _ hR => cp_222o hK hR hw (Or.inr (Or.inl h2)))
      | true =>
        cases h3 : ce_ix z 13 with
        | false => exact cl_st hK (cp_112o hK hM hw (Or.inr (Or.inr h3))) (fun _ _ _ hR => cp_222o hK hR hw (Or.inr (Or.inr h3)))
        | true =>
          by_cases h7 : 7 < D 0 2
          · exact cl_st hK (cp_112m hK hM hw h h2 h3 h7) (fun _ _ _ hR => cp_222m hK hR hw h h2 h3 h7)
          · obtain ⟨a, a1, a2, rfl⟩ := ce_ih_t h
            obtain ⟨b, hb, rfl⟩ := ce_ix_t h2
            obtain ⟨c, hc, rfl⟩ := ce_ix_t h3
            exact cl_st hK (cp_112 hK hM ho a1 a2 hb hc (by omega)) (fun _ _ _ hR => cp_222 hK hR ho a1 a2 hb hc (by omega))
theorem cl_114 (hK : ce_ok D S Y) (hM : cf_M D S Y w I J) : cl_op L Value.int (cd_c 114 [.ref 2]) (cd_c 223 [.ref 100]) D S Y w I J := by
  by_cases h7 : 7 < D 0 2
  · exact cl_st hK (cp_114n hK hM h7) (fun _ _ _ hR => cp_223n hK hR h7)
  · exact cl_st hK (cp_114 hK hM (by omega)) (fun _ _ _ hR => cp_223 hK hR (by omega))
theorem cl_118 (hK : ce_ok D S Y) (hM : cf_M D S Y w I J) {x z : Int32} {dn : Bool} : cl_op L Value.int (cd_c 118 [.ref 2, .int x, .int (cd_tf dn), .int z]) (cd_c 228 [.ref 100, .int x, .int (cd_tf dn), .int z]) D S Y w I J := by
  cases h : ce_ix x 5 with
  | false => exact cl_st hK (cp_118o hM h) (fun _ _ _ hR => cp_228o hR h)
  | true =>
    obtain ⟨t, ht, rfl⟩ := ce_ix_t h
    exact cl_st hK (cp_118 hK hM ht) (fun _ _ _ hR => cp_228 hK hR ht)
theorem cl_120 (hK : ce_ok D S Y) (hM : cf_M D S Y w I J) {x : Int32} : cl_op L Value.int (cd_c 120 [.ref 2, .int x]) (cd_c 229 [.ref 100, .int x]) D S Y w I J := by
  cases h : ce_ix x (2 ^ D 0 2) with
  | false => exact cl_st hK (cp_120n hK hM h) (fun _ _ _ hR => cp_229n hK hR h)
  | true =>
    obtain ⟨t, ht, rfl⟩ := ce_ix_t h
    exact cl_st hK (cp_120 hK hM ht) (fun _ _ _ hR => cp_229 hK hR ht)
theorem cl_123 (hK : ce_ok D S Y) (hM : cf_M D S Y w I J) {x y : Int32} : cl_op L Value.int (cd_c 123 [.ref 2, .int x, .int y]) (cd_c 231 [.ref 100, .int x, .int y]) D S Y w I J := by
  cases h : ce_ix x (D 0 0) with
  | false => exact cl_st hK (cp_123n hK hM h) (fun _ _ _ hR => cp_231n hK hR h)
  | true =>
    cases h2 : ce_ix y 1000 with
    | false => exact cl_st hK (cp_123o hK hM h h2) (fun _ _ _ hR => cp_231o hK hR h h2)
    | true =>
      obtain ⟨t, ht, rfl⟩ := ce_ix_t h
      obtain ⟨u, hu, rfl⟩ := ce_ix_t h2
      exact cl_st hK (cp_123 hK hM ht hu) (fun _ _ _ hR => cp_231 hK hR ht hu)
theorem cl_124 (hK : ce_ok D S Y) (hM : cf_M D S Y w I J) {x y z : Int32} : cl_op L Value.int (cd_c 124 [.ref 2, .int x, .int y, .int z]) (cd_c 232 [.ref 100, .int x, .int y, .int z]) D S Y w I J := by
  cases h : ce_ix x (D 0 2) with
  | false => exact cl_st hK (cp_124n hK hM h) (fun _ _ _ hR => cp_232n hK hR h)
  | true =>
    cases h2 : ce_ix y 5 with
    | false => exact cl_st hK (cp_124o hK hM h (Or.inl h2)) (fun _ _ _ hR => cp_232o hK hR h (Or.inl h2))
    | true =>
      obtain ⟨v, hv, rfl⟩ := ce_ix_t h2
      by_cases hz : v = 2 ∧ ce_i99 z = false
      · exact cl_st hK (cp_124o hK hM h (Or.inr ⟨by rw [hz.1], hz.2⟩)) (fun _ _ _ hR => cp_232o hK hR h (Or.inr ⟨by rw [hz.1], hz.2⟩))
      · have hz2 : v = 2 → ce_i99 z = true := fun q => by
          cases hq : ce_i99 z with
          | true => rfl
          | false => exact absurd ⟨q, hq⟩ hz
        obtain ⟨k, hk, rfl⟩ := ce_ix_t h
        cases hu : cd_und D (D 11 k) (S 1 (D 12 k)) with
        | false => exact cl_st hK (cp_124m hK hM hk hv hz2 hu) (fun _ _ _ hR => cp_232m hK hR hk hv hz2 hu)
        | true =>
          by_cases h22 : v = 2
          · obtain ⟨b, b1, b2, rfl⟩ := ce_i99_t (hz2 h22)
            exact cl_st2 ⟨hK.1, ce_fas_ok hK.2.1 hk (by omega) b2 (fun q => absurd h22 q) hu, hK.2.2⟩ (cp_124 hK hM hk hv (fun _ => ⟨rfl, b1, b2⟩) (fun q => absurd h22 q) hu) (fun _ _ _ hR => cp_232 hK hR hk hv (fun _ => ⟨rfl, b1, b2⟩) (fun q => absurd h22 q) hu)
          · exact cl_st2 ⟨hK.1, ce_fas_ok (b := 0) hK.2.1 hk (by omega) (by decide) (fun _ => rfl) hu, hK.2.2⟩ (cp_124 hK hM hk hv (fun q => absurd q h22) (fun _ => rfl) hu) (fun _ _ _ hR => cp_232 hK hR hk hv (fun q => absurd q h22) (fun _ => rfl) hu)
theorem cl_130 (hK : ce_ok D S Y) (hM : cf_M D S Y w I J) {x : Int32} : cl_op L Value.int (cd_c 130 [.ref 2, .int x]) (cd_c 236 [.ref 100, .int x]) D S Y w I J := by
  exact cl_st hK (cp_130 hK hM) (fun _ _ _ hR => cp_236 hK hR)
theorem cl_131 (hK : ce_ok D S Y) (hM : cf_M D S Y w I J) {x : Int32} : cl_op L Value.int (cd_c 131 [.ref 2, .int x]) (cd_c 240 [.ref 100, .int x]) D S Y w I J := by
  cases h : ce_ix x (ceU Y) with
  | false => exact cl_st hK (cp_131n hK hM h) (fun _ _ _ hR => cp_240n hK hR h)
  | true =>
    obtain ⟨t, ht, rfl⟩ := ce_ix_t h
    exact cl_st hK (cp_131 hK hM ht) (fun _ _ _ hR => cp_240 hK hR ht)
theorem cl_132 (hK : ce_ok D S Y) (hM : cf_M D S Y w I J) {x : Int32} : cl_op L Value.int (cd_c 132 [.ref 2, .int x]) (cd_c 241 [.ref 100, .int x]) D S Y w I J := by
  by_cases h : x < 0
  · exact cl_st hK (cp_132n hM h) (fun _ _ _ hR => cp_241n hR h)
  · have hx : ∃ v, v < 2 ^ 31 ∧ x = nI v := by
      refine ⟨x.toInt.toNat, ?_, ?_⟩
      · have := x.toInt_lt
        omega
      · have h0 : 0 ≤ x.toInt := by
          have hn : ¬ x.toInt < (0 : Int32).toInt := fun q => h (Int32.lt_iff_toInt_lt.mpr q)
          have e0 : (0 : Int32).toInt = 0 := rfl
          omega
        rw [← zI_n, Int.toNat_of_nonneg h0]
        exact (Int32.ofInt_toInt x).symm
    obtain ⟨v, hv, rfl⟩ := hx
    exact cl_st2 ⟨hK.1, ce_s3_ok hK.2.1 hv, hK.2.2⟩ (cp_132 hK hM hv) (fun _ _ _ hR => cp_241 hK hR hv)
theorem cl_134 (hK : ce_ok D S Y) (hM : cf_M D S Y w I J) {x y : Int32} : cl_op L Value.int (cd_c 134 [.ref 2, .int x, .int y]) (cd_c 243 [.ref 100, .int x, .int y]) D S Y w I J := by
  cases h : ce_ih x with
  | false => exact cl_st hK (cp_134n hM (Or.inl h)) (fun _ _ _ hR => cp_243n hR (Or.inl h))
  | true =>
    cases h2 : ce_ix y 1000 with
    | false => exact cl_st hK (cp_134n hM (Or.inr h2)) (fun _ _ _ hR => cp_243n hR (Or.inr h2))
    | true =>
      by_cases h0 : D 0 0 = 0
      · exact cl_st hK (cp_134m hM h h2 h0) (fun _ _ _ hR => cp_243m hR h h2 h0)
      · obtain ⟨a, a1, a2, rfl⟩ := ce_ih_t h
        obtain ⟨b, hb, rfl⟩ := ce_ix_t h2
        exact cl_st2 (ce_bu_ok hK b a).1 (cp_134 hK hM a1 a2 hb (by omega)) (fun _ _ _ hR => cp_243 hK hR a1 a2 hb (by omega))
theorem cl_135 (hK : ce_ok D S Y) (hM : cf_M D S Y w I J) {x : Int32} : cl_op L Value.int (cd_c 135 [.ref 2, .int x]) (cd_c 244 [.ref 100, .int x]) D S Y w I J := by
  cases h : ce_ix x 2 with
  | false => exact cl_st hK (cp_135n hM h) (fun _ _ _ hR => cp_244n hR h)
  | true =>
    obtain ⟨t, ht, rfl⟩ := ce_ix_t h
    exact cl_st2 ⟨hK.1, hK.2.1, hK.2.2.SK hK.2.1 t⟩ (cp_135 hK hM ht) (fun _ _ _ hR => cp_244 hK hR ht)
theorem cl_136 (hK : ce_ok D S Y) (hM : cf_M D S Y w I J) {x : Int32} : cl_op L Value.int (cd_c 136 [.ref 2, .int x]) (cd_c 245 [.ref 100, .int x]) D S Y w I J := by
  cases h : ce_ix x 2 with
  | false => exact cl_st hK (cp_136n hM h) (fun _ _ _ hR => cp_245n hR h)
  | true =>
    obtain ⟨t, ht, rfl⟩ := ce_ix_t h
    cases hb : ceB Y t with
    | false => exact cl_st hK (cp_136m hM ht hb) (fun _ _ _ hR => cp_245m hR ht hb)
    | true => exact cl_st2 ⟨hK.1, hK.2.2.2.2.2.2 t ht hb, hK.2.2⟩ (cp_136 hK hM ht hb) (fun _ _ _ hR => cp_245 hK hR ht hb)
theorem cl_13 (hK : ce_ok D S Y) (hM : cf_M D S Y w I J) {x : Int32} {y : Int64} : cl_op L Value.int (cd_c 13 [.ref 2, .int x, .long y]) (cd_c 151 [.ref 100, .int x, .long y]) D S Y w I J := by
  cases h : (decide (1 ≤ x) && decide (x ≤ 8)) with
  | false => exact cl_st hK (cp_13n hM h) (fun _ _ _ hR => cp_151n hR h)
  | true =>
    obtain ⟨n, n1, n8, rfl⟩ := cl_i8 h
    by_cases hf : 500 < ceN Y + n
    · exact cl_st hK (cp_13f hK hM n1 n8 hf) (fun _ _ _ hR => cp_151f hK hR n1 n8 hf)
    · exact cl_st2 ⟨hK.1, hK.2.1, hK.2.2.SX (by omega) (fun j => ce_fed_lt hK j)⟩ (cp_13 hK hM n1 n8 (by omega)) (fun _ _ _ hR => cp_151 hK hR n1 n8 (by omega))
theorem cl_42 (hK : ce_ok D S Y) (hM : cf_M D S Y w I J) : cl_op L Value.int (cd_c 42 [.ref 2]) (cd_c 170 [.ref 100]) D S Y w I J := by
  obtain ⟨w2, h⟩ := cp_42 (L := L) hK hM
  have hd := ce_den_ok hK
  have g : ∀ (w : Bool) (I : Nat → Nat → Int32) (J : Nat → Nat → Int64), ce_M D S Y I → cw L w (cd_c 170 [.ref 100] (cd_mm L w I J)) _ := fun _ _ _ hR => cp_170 hK hR
  cases he : ce_den (ceX Y) (ceN Y) (S 0 3) with
  | error b =>
    obtain ⟨f, p⟩ := b
    rw [he] at h g
    exact cl_st2 (hd.1 he).1 h g
  | ok b =>
    obtain ⟨D1, S1⟩ := b
    rw [he] at h g
    exact cl_st2 (hd.2 he) h g
theorem cl_45 (hK : ce_ok D S Y) (hM : cf_M D S Y w I J) : cl_op L Value.int (cd_c 45 [.ref 2]) (cd_c 239 [.ref 100]) D S Y w I J := by
  by_cases h60 : 60 < ceN Y
  · exact cl_st hK (cp_45n hK hM h60) (fun _ _ _ hR => cp_239n hR hK.2.2.1.1 h60)
  · by_cases h4 : ceU Y = 4
    · exact cl_st hK (cp_45f hK hM (by omega) h4) (fun _ _ _ hR => cp_239f hR (by omega) h4)
    · have hu4 := hK.2.2.1.2.2.2.1
      have h := cp_45 (L := L) (w := w) (J := J) hK hM (by omega) (by omega)
      have hd := ce_want_okY hK (show ceU Y < 4 by omega)
      have g : ∀ (w : Bool) (I : Nat → Nat → Int32) (J : Nat → Nat → Int64), ce_M D S Y I → cw L w (cd_c 239 [.ref 100] (cd_mm L w I J)) _ := fun _ _ _ hR => cp_239 hK hR (by omega) (by omega)
      cases he : ce_want (ceX Y) (ceN Y) with
      | error b =>
        obtain ⟨f, p⟩ := b
        rw [he] at h g
        exact cl_st2 (hd.1 he).1 h g
      | ok V =>
        rw [he] at h g
        exact cl_st2 (hd.2 he) h g
end CLA
