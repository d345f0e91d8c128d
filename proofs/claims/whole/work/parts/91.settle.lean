/-! ===== the class: settle ===== -/
/-- log l holds the events -/
def cf_L (E : List (Nat × Nat)) (l : Nat) (I : Nat → Nat → Int32) : Prop := I l 2 = nI E.length ∧ ∀ j, j < E.length → I (l + 1) j = nI (E.getD j (0, 0)).1 ∧ I (l + 2) j = nI (E.getD j (0, 0)).2
section CGB
variable {L : Nat} {w : Bool} {I : Nat → Nat → Int32} {J : Nat → Nat → Int64} {D : cd_D} {S : cd_S}
variable {p s z l : Nat}
theorem cp_81 (hl : l = 26 ∨ l = 42) {E : List (Nat × Nat)} (hE : E.length < 60) (hL : cf_L E l I) (x y : Nat) : cw L w (cd_c 81 [.ref l, .int (nI x), .int (nI y)] (cd_mm L w I J)) (fun v I1 J1 => v = none ∧ J1 = J ∧ (∀ a j, ¬ (l ≤ a ∧ a ≤ l + 2) → I1 a j = I a j) ∧ cf_L (E ++ [(x, y)]) l I1) := by
  obtain ⟨e1, e2⟩ := hL
  refine cw_c (l := [.ref l, .int (nI x), .int (nI y)]) (by rcases hl with rfl | rfl <;> rfl) (by rcases hl with rfl | rfl <;> rfl) ?_
  refine cw_m (fun _ => cd_s81_0 hl) ?_
  have hin : cd_in (nI E.length) 60 = true := cd_inN hE (by decide)
  rw [e1, if_pos (show nI E.length < 60 from nI_lt (b := 60) hE (by decide)), if_pos hin, nI_clamp (by omega), cd_up_a (by omega), e1, if_pos hin, nI_clamp (by omega), cd_up_a (by omega), cd_up_a (by omega), e1, nI_1]
  refine cw_ret ⟨rfl, rfl, fun a j h => ?_, ?_, fun j hj => ?_⟩
  · rw [cd_up_a (by omega), cd_up_a (by omega), cd_up_a (by omega)]
  · rw [cd_up_s, List.length_append]
    rfl
  · rw [List.length_append] at hj
    replace hj : j < E.length + 1 := hj
    have r1 : cd_up (cd_up (cd_up I (l + 1) E.length (nI x)) (l + 2) E.length (nI y)) l 2 (nI (E.length + 1)) (l + 1) j = if j = E.length then nI x else I (l + 1) j := by
      rw [cd_up_a (by omega), cd_up_a (by omega), cw_uu, if_pos rfl]
    have r2 : cd_up (cd_up (cd_up I (l + 1) E.length (nI x)) (l + 2) E.length (nI y)) l 2 (nI (E.length + 1)) (l + 2) j = if j = E.length then nI y else I (l + 2) j := by
      rw [cd_up_a (by omega), cw_uu, if_pos rfl, cd_up_a (by omega)]
    rw [r1, r2]
    by_cases h : j = E.length
    · subst h
      rw [if_pos rfl, if_pos rfl]
      simp
    · rw [if_neg h, if_neg h, show (E ++ [(x, y)]).getD j (0, 0) = E.getD j (0, 0) by
        rw [List.getD_eq_getElem?_getD, List.getD_eq_getElem?_getD, List.getElem?_append_left (by omega)]]
      exact e2 j (by omega)
end CGB
