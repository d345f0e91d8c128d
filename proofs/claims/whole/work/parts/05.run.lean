/-! ===== runs of the small machine ===== -/
def cd_args : List Value → List Value
  | [] => []
  | .long v :: r => .long v :: .null :: cd_args r
  | v :: r => v :: cd_args r
def cd_pad (n : Nat) (l : List Value) : List Value := l ++ List.replicate (n - l.length) .null
def cd_ent (y : Nat) (a : List Value) : List Value := cd_pad (cd_mx y) (cd_args a)
/-- what a call may give: ints, longs, references -/
def cd_nz (v : Value) : Bool := match v with
  | .int _ => true
  | .long _ => true
  | .ref _ => true
  | _ => false
/-- a call's start: its arguments as locals, if they fit -/
def cd_call (X : Nat → cd_X) : cd_C := fun y a M => bif Nat.ble (cd_args a).length (cd_mx y) && a.all cd_nz then X y 0 (cd_ent y a) [] M else none
def cd_run : Nat → Nat → cd_X
  | 0, _ => fun _ _ _ _ => none
  | n + 1, y => fun ii ls st M => match (cd_body y)[ii]? with
    | none => none
    | some o => cd_step (cd_run n y) (cd_call (cd_run n)) o ii ls st M
theorem cd_mono1 : ∀ (n y ii : Nat) (ls st : List Value) (M : cd_M) (r : cd_Ret), cd_run n y ii ls st M = some r → cd_run (n + 1) y ii ls st M = some r := by
  intro n
  induction n with
  | zero => intro y ii ls st M r h; cases h
  | succ n ih =>
    intro y ii ls st M r h
    unfold cd_run at h ⊢
    split at h
    · cases h
    · rcases cd_lin h with ⟨i, l, s0, m, h1, h2⟩ | ⟨y', a, m, q, i, l, s0, m', h0, h1, h2⟩ | h2
      · exact h2 _ _ (ih _ _ _ _ _ _ h1)
      · refine h2 _ _ ?_ (ih _ _ _ _ _ _ h1)
        unfold cd_call at h0 ⊢
        cases hb : Nat.ble (cd_args a).length (cd_mx y') && a.all cd_nz with
        | false => rw [hb] at h0; cases h0
        | true => rw [hb] at h0; exact ih _ _ _ _ _ _ h0
      · exact h2 _ _
theorem cd_mono {n m y ii : Nat} {ls st : List Value} {M : cd_M} {r : cd_Ret} (h : cd_run n y ii ls st M = some r) (hm : n ≤ m) : cd_run m y ii ls st M = some r := by
  induction hm with
  | refl => exact h
  | step _ ih => exact cd_mono1 _ _ _ _ _ _ _ ih
noncomputable def cd_go (y : Nat) : cd_X := fun ii ls st M => @dite _ (∃ r, ∃ n, cd_run n y ii ls st M = some r) (Classical.propDecidable _) (fun h => some h.choose) (fun _ => none)
theorem cd_go_of {n y ii : Nat} {ls st : List Value} {M : cd_M} {r : cd_Ret} (h : cd_run n y ii ls st M = some r) : cd_go y ii ls st M = some r := by
  have hx : ∃ r, ∃ n, cd_run n y ii ls st M = some r := ⟨r, n, h⟩
  unfold cd_go
  rw [dif_pos hx]
  obtain ⟨m, hm⟩ := hx.choose_spec
  have h1 := cd_mono h (Nat.le_max_left n m)
  have h2 := cd_mono hm (Nat.le_max_right n m)
  rw [h1] at h2
  exact h2.symm
theorem cd_go_run {y ii : Nat} {ls st : List Value} {M : cd_M} {r : cd_Ret} (h : cd_go y ii ls st M = some r) : ∃ n, cd_run n y ii ls st M = some r := by
  unfold cd_go at h
  by_cases hx : ∃ r, ∃ n, cd_run n y ii ls st M = some r
  · rw [dif_pos hx] at h
    cases h
    exact hx.choose_spec
  · rw [dif_neg hx] at h
    cases h
/-- a call: a method from its start -/
noncomputable def cd_c : cd_C := cd_call cd_go
theorem cd_go_step {y ii : Nat} {ls st : List Value} {M : cd_M} {r : cd_Ret} {o : cd_O} (ho : (cd_body y)[ii]? = some o) (h : cd_step (cd_go y) cd_c o ii ls st M = some r) : cd_go y ii ls st M = some r := by
  have key : ∃ n, cd_step (cd_run n y) (cd_call (cd_run n)) o ii ls st M = some r := by
    rcases cd_lin h with ⟨i, l, s0, m, h1, h2⟩ | ⟨y', a, m, q, i, l, s0, m', h0, h1, h2⟩ | h2
    · obtain ⟨n, hn⟩ := cd_go_run h1
      exact ⟨n, h2 _ _ hn⟩
    · obtain ⟨n, hn⟩ := cd_go_run h1
      unfold cd_c cd_call at h0
      cases hb : Nat.ble (cd_args a).length (cd_mx y') && a.all cd_nz with
      | false => rw [hb] at h0; cases h0
      | true =>
        rw [hb] at h0
        obtain ⟨k, hk⟩ := cd_go_run h0
        refine ⟨max n k, h2 _ _ ?_ (cd_mono hn (Nat.le_max_left n k))⟩
        unfold cd_call
        rw [hb]
        exact cd_mono hk (Nat.le_max_right n k)
    · exact ⟨0, h2 _ _⟩
  obtain ⟨n, hn⟩ := key
  refine cd_go_of (n := n + 1) ?_
  unfold cd_run
  rw [ho]
  exact hn
/-- several steps: until a place of 'cuts' (not the first), or n steps -/
noncomputable def cd_ev (y : Nat) (B : List cd_O) (cuts : List Nat) : Nat → List cd_O → cd_X
  | 0, _ => cd_go y
  | n + 1, R => fun ii ls st M => match R with
    | [] => none
    | o :: R' => cd_step (fun i l s m => bif cuts.contains i then cd_go y i l s m else cd_ev y B cuts n (bif Nat.beq i (ii + 1) then R' else B.drop i) i l s m) cd_c o ii ls st M
theorem cd_ev_go {y : Nat} {B : List cd_O} (hB : cd_body y = B) {cuts : List Nat} : ∀ (n ii : Nat) (R : List cd_O) (ls st : List Value) (M : cd_M) (r : cd_Ret), R = B.drop ii → cd_ev y B cuts n R ii ls st M = some r → cd_go y ii ls st M = some r := by
  intro n
  induction n with
  | zero => intro ii R ls st M r _ h; exact h
  | succ n ih =>
    intro ii R ls st M r hR h
    unfold cd_ev at h
    split at h
    · cases h
    · rename_i o R'
      have ho : (cd_body y)[ii]? = some o := by
        rw [hB]
        have h1 : (B.drop ii)[0]? = some o := by rw [← hR]; rfl
        rw [List.getElem?_drop] at h1
        simpa using h1
      refine cd_go_step ho ?_
      have hR' : R' = B.drop (ii + 1) := by
        have h1 : (B.drop ii).tail = R' := by rw [← hR]; rfl
        rw [List.tail_drop] at h1
        exact h1.symm
      have nx : ∀ (i : Nat) (l s0 : List Value) (m : cd_M), (bif cuts.contains i then cd_go y i l s0 m else cd_ev y B cuts n (bif Nat.beq i (ii + 1) then R' else B.drop i) i l s0 m) = some r → cd_go y i l s0 m = some r := by
        intro i l s0 m hh
        cases hc : cuts.contains i with
        | true => rw [hc] at hh; exact hh
        | false =>
          rw [hc] at hh
          refine ih i _ l s0 m r ?_ hh
          cases hb : Nat.beq i (ii + 1) with
          | true => rw [Nat.eq_of_beq_eq_true hb]; exact hR'
          | false => rfl
      rcases cd_lin h with ⟨i, l, s0, m, h1, h2⟩ | ⟨y', a, m, q, i, l, s0, m', h0, h1, h2⟩ | h2
      · exact h2 _ _ (nx _ _ _ _ h1)
      · exact h2 _ _ h0 (nx _ _ _ _ h1)
      · exact h2 _ _
/-- what a method does from a place on, given by a tree that the steps come to -/
theorem cd_at {y : Nat} {B : List cd_O} (hB : cd_body y = B) (cuts : List Nat) (n : Nat) {ii : Nat} {ls st : List Value} {M : cd_M} {t : Option cd_Ret} (ht : cd_ev y B cuts n (B.drop ii) ii ls st M = t) {r : cd_Ret} (h : t = some r) : cd_go y ii ls st M = some r := cd_ev_go hB n ii _ ls st M r rfl (ht.trans h)
theorem cd_c_of {y : Nat} {a : List Value} {M : cd_M} {r : cd_Ret} {l : List Value} (hl : cd_ent y a = l) (hn : (Nat.ble (cd_args a).length (cd_mx y) && a.all cd_nz) = true) (h : cd_go y 0 l [] M = some r) : cd_c y a M = some r := by
  unfold cd_c cd_call
  rw [hn, hl]
  exact h
