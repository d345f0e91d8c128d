theorem cd_ci_s {x : Option cd_Ret} {f : Int32 × cd_M → Option cd_Ret} {r : cd_Ret} : (cd_ci x).bind f = some r ↔ ∃ v m, x = some (some (.int v), m) ∧ f (v, m) = some r := by
  constructor
  · intro h
    obtain ⟨q, h1, h2⟩ := Option.bind_eq_some_iff.mp h
    obtain ⟨z, h3, h4⟩ := Option.bind_eq_some_iff.mp h1
    obtain ⟨o, m⟩ := z
    dsimp only at h4
    split at h4
    · cases h4
      exact ⟨_, m, h3, h2⟩
    · cases h4
  · rintro ⟨v, m, rfl, h⟩
    exact h
theorem cd_cl_s {x : Option cd_Ret} {f : Int64 × cd_M → Option cd_Ret} {r : cd_Ret} : (cd_cl x).bind f = some r ↔ ∃ v m, x = some (some (.long v), m) ∧ f (v, m) = some r := by
  constructor
  · intro h
    obtain ⟨q, h1, h2⟩ := Option.bind_eq_some_iff.mp h
    obtain ⟨z, h3, h4⟩ := Option.bind_eq_some_iff.mp h1
    obtain ⟨o, m⟩ := z
    dsimp only at h4
    split at h4
    · cases h4
      exact ⟨_, m, h3, h2⟩
    · cases h4
  · rintro ⟨v, m, rfl, h⟩
    exact h
theorem cd_cv_s {x : Option cd_Ret} {f : cd_M → Option cd_Ret} {r : cd_Ret} : (cd_cv x).bind f = some r ↔ ∃ m, x = some (none, m) ∧ f m = some r := by
  constructor
  · intro h
    obtain ⟨q, h1, h2⟩ := Option.bind_eq_some_iff.mp h
    obtain ⟨z, h3, h4⟩ := Option.bind_eq_some_iff.mp h1
    obtain ⟨o, m⟩ := z
    dsimp only at h4
    split at h4
    · cases h4
      exact ⟨_, h3, h2⟩
    · cases h4
  · rintro ⟨m, rfl, h⟩
    exact h
def cd_Lin (s : cd_X → cd_C → Option cd_Ret) (κ : cd_X) (C : cd_C) (r : cd_Ret) : Prop :=
    (∃ i l s0 m, κ i l s0 m = some r ∧ ∀ (κ' : cd_X) (C' : cd_C), κ' i l s0 m = some r → s κ' C' = some r) ∨
    (∃ y a m q i l s0 m', C y a m = some q ∧ κ i l s0 m' = some r ∧ ∀ (κ' : cd_X) (C' : cd_C), C' y a m = some q → κ' i l s0 m' = some r → s κ' C' = some r) ∨
    (∀ (κ' : cd_X) (C' : cd_C), s κ' C' = some r)
theorem cd_Lin.go {κ : cd_X} {C : cd_C} {r : cd_Ret} {i l s0 m} (h : κ i l s0 m = some r) : cd_Lin (fun κ _ => κ i l s0 m) κ C r := Or.inl ⟨i, l, s0, m, h, fun _ _ h => h⟩
theorem cd_Lin.no {s : cd_X → cd_C → Option cd_Ret} {κ : cd_X} {C : cd_C} {r : cd_Ret} (h : (none : Option cd_Ret) = some r) : cd_Lin s κ C r := by cases h
theorem cd_Lin.ite {P : Prop} [Decidable P] {s1 s2 : cd_X → cd_C → Option cd_Ret} {κ : cd_X} {C : cd_C} {r : cd_Ret} (h1 : s1 κ C = some r → cd_Lin s1 κ C r) (h2 : s2 κ C = some r → cd_Lin s2 κ C r) (h : (if P then s1 κ C else s2 κ C) = some r) : cd_Lin (fun κ C => if P then s1 κ C else s2 κ C) κ C r := by
  by_cases hP : P
  · rw [if_pos hP] at h
    simp only [if_pos hP]
    exact h1 h
  · rw [if_neg hP] at h
    simp only [if_neg hP]
    exact h2 h
theorem cd_Lin.gg {P Q : Prop} [Decidable P] [Decidable Q] {κ : cd_X} {C : cd_C} {r : cd_Ret} {i l s0 m} (h : (if P then (if Q then κ i l s0 m else none) else none) = some r) : cd_Lin (fun κ _ => if P then (if Q then κ i l s0 m else none) else none) κ C r := by
  by_cases hP : P <;> by_cases hQ : Q <;> simp only [hP, hQ, if_true, if_false] at h ⊢
  · exact cd_Lin.go h
  all_goals cases h
theorem cd_Lin.g3 {P Q S : Prop} [Decidable P] [Decidable Q] [Decidable S] {κ : cd_X} {C : cd_C} {r : cd_Ret} {i l s0 m j l' s1 m'} (h : (if P then (if Q then (if S then κ i l s0 m else none) else κ j l' s1 m') else none) = some r) : cd_Lin (fun κ _ => if P then (if Q then (if S then κ i l s0 m else none) else κ j l' s1 m') else none) κ C r := by
  by_cases hP : P <;> by_cases hQ : Q <;> by_cases hS : S <;> simp only [hP, hQ, hS, if_true, if_false] at h ⊢
  all_goals first | exact cd_Lin.go h | cases h
theorem cd_Lin.r2 {P Q : Prop} [Decidable P] [Decidable Q] {κ : cd_X} {C : cd_C} {r : cd_Ret} {x y : cd_Ret} (h : (if P then (if Q then some x else none) else some y) = some r) : cd_Lin (fun _ _ => if P then (if Q then some x else none) else some y) κ C r := Or.inr (Or.inr fun _ _ => h)
theorem cd_Lin.bf {b : Bool} {s1 : cd_X → cd_C → Option cd_Ret} {κ : cd_X} {C : cd_C} {r : cd_Ret} (h1 : s1 κ C = some r → cd_Lin s1 κ C r) (h : (bif b then s1 κ C else none) = some r) : cd_Lin (fun κ C => bif b then s1 κ C else none) κ C r := by
  cases b
  · cases h
  · exact h1 h
theorem cd_Lin.ci {κ : cd_X} {C : cd_C} {r : cd_Ret} {y a m} {f : cd_X → Int32 × cd_M → Option cd_Ret} {i l} {s0 : Int32 × cd_M → List Value} (hf : ∀ κ q, f κ q = κ i l (s0 q) q.2) (h : (cd_ci (C y a m)).bind (f κ) = some r) : cd_Lin (fun κ C => (cd_ci (C y a m)).bind (f κ)) κ C r := by
  obtain ⟨v, m', h1, h2⟩ := cd_ci_s.mp h
  rw [hf] at h2
  exact Or.inr (Or.inl ⟨_, _, _, _, _, _, _, _, h1, h2, fun κ' C' g1 g2 => cd_ci_s.mpr ⟨v, m', g1, by rw [hf]; exact g2⟩⟩)
theorem cd_Lin.cl {κ : cd_X} {C : cd_C} {r : cd_Ret} {y a m} {f : cd_X → Int64 × cd_M → Option cd_Ret} {i l} {s0 : Int64 × cd_M → List Value} (hf : ∀ κ q, f κ q = κ i l (s0 q) q.2) (h : (cd_cl (C y a m)).bind (f κ) = some r) : cd_Lin (fun κ C => (cd_cl (C y a m)).bind (f κ)) κ C r := by
  obtain ⟨v, m', h1, h2⟩ := cd_cl_s.mp h
  rw [hf] at h2
  exact Or.inr (Or.inl ⟨_, _, _, _, _, _, _, _, h1, h2, fun κ' C' g1 g2 => cd_cl_s.mpr ⟨v, m', g1, by rw [hf]; exact g2⟩⟩)
theorem cd_Lin.cv {κ : cd_X} {C : cd_C} {r : cd_Ret} {y a m} {f : cd_X → cd_M → Option cd_Ret} {i l} {s0 : List Value} (hf : ∀ κ q, f κ q = κ i l s0 q) (h : (cd_cv (C y a m)).bind (f κ) = some r) : cd_Lin (fun κ C => (cd_cv (C y a m)).bind (f κ)) κ C r := by
  obtain ⟨m', h1, h2⟩ := cd_cv_s.mp h
  rw [hf] at h2
  exact Or.inr (Or.inl ⟨_, _, _, _, _, _, _, _, h1, h2, fun κ' C' g1 g2 => cd_cv_s.mpr ⟨m', g1, by rw [hf]; exact g2⟩⟩)
theorem cd_Lin.sw {ls st : List Value} {M : cd_M} {d : Nat} {x : Int32} {κ : cd_X} {C : cd_C} {r : cd_Ret} (ts : List Nat) : ∀ v : Int32, cd_sw (fun t => κ t ls st M) d x v ts = some r → cd_Lin (fun κ _ => cd_sw (fun t => κ t ls st M) d x v ts) κ C r := by
  induction ts with
  | nil => exact fun v h => cd_Lin.go h
  | cons t ts ih => exact fun v h => cd_Lin.ite (s1 := fun κ _ => κ t ls st M) (s2 := fun κ _ => cd_sw (fun t => κ t ls st M) d x (v + 1) ts) (fun h => cd_Lin.go h) (fun h => ih _ h) h
theorem cd_Lin.bg {b : Bool} {P : Prop} [Decidable P] {κ : cd_X} {C : cd_C} {r : cd_Ret} {i l s0 m} (h : (bif b then (if P then κ i l s0 m else none) else none) = some r) : cd_Lin (fun κ _ => bif b then (if P then κ i l s0 m else none) else none) κ C r := by
  cases b
  · cases h
  · exact cd_Lin.ite (s1 := fun κ _ => κ i l s0 m) (s2 := fun _ _ => none) (fun h => cd_Lin.go h) cd_Lin.no h
theorem cd_Lin.bgi {b : Bool} {P : Prop} [Decidable P] {κ : cd_X} {C : cd_C} {r : cd_Ret} {y a m i l} {s0 : Int32 × cd_M → List Value} (h : (bif b then (if P then (cd_ci (C y a m)).bind (fun q => κ i l (s0 q) q.2) else none) else none) = some r) : cd_Lin (fun κ C => bif b then (if P then (cd_ci (C y a m)).bind (fun q => κ i l (s0 q) q.2) else none) else none) κ C r := by
  cases b
  · cases h
  · exact cd_Lin.ite (s1 := fun κ C => (cd_ci (C y a m)).bind (fun q => κ i l (s0 q) q.2)) (s2 := fun _ _ => none) (fun h => cd_Lin.ci (f := fun κ q => κ _ _ _ q.2) (fun _ _ => rfl) h) cd_Lin.no h
theorem cd_Lin.bgl {b : Bool} {P : Prop} [Decidable P] {κ : cd_X} {C : cd_C} {r : cd_Ret} {y a m i l} {s0 : Int64 × cd_M → List Value} (h : (bif b then (if P then (cd_cl (C y a m)).bind (fun q => κ i l (s0 q) q.2) else none) else none) = some r) : cd_Lin (fun κ C => bif b then (if P then (cd_cl (C y a m)).bind (fun q => κ i l (s0 q) q.2) else none) else none) κ C r := by
  cases b
  · cases h
  · exact cd_Lin.ite (s1 := fun κ C => (cd_cl (C y a m)).bind (fun q => κ i l (s0 q) q.2)) (s2 := fun _ _ => none) (fun h => cd_Lin.cl (f := fun κ q => κ _ _ _ q.2) (fun _ _ => rfl) h) cd_Lin.no h
theorem cd_Lin.bgv {b : Bool} {P : Prop} [Decidable P] {κ : cd_X} {C : cd_C} {r : cd_Ret} {y a m i l} {s0 : List Value} (h : (bif b then (if P then (cd_cv (C y a m)).bind (fun q => κ i l s0 q) else none) else none) = some r) : cd_Lin (fun κ C => bif b then (if P then (cd_cv (C y a m)).bind (fun q => κ i l s0 q) else none) else none) κ C r := by
  cases b
  · cases h
  · exact cd_Lin.ite (s1 := fun κ C => (cd_cv (C y a m)).bind (fun q => κ i l s0 q)) (s2 := fun _ _ => none) (fun h => cd_Lin.cv (f := fun κ q => κ _ _ _ q) (fun _ _ => rfl) h) cd_Lin.no h
theorem cd_Lin.bgn {b : Bool} {P : Prop} [Decidable P] {s : cd_X → cd_C → Option cd_Ret} {κ : cd_X} {C : cd_C} {r : cd_Ret} (h : (bif b then (if P then (none : Option cd_Ret) else none) else none) = some r) : cd_Lin s κ C r := by
  cases b
  · cases h
  · rw [ite_self] at h
    cases h
set_option maxHeartbeats 4000000 in
/-- a step uses what goes on, or a call and what goes on, or ends -/
theorem cd_lin {κ : cd_X} {C : cd_C} {o : cd_O} {ii : Nat} {ls st : List Value} {M : cd_M} {r : cd_Ret} (h : cd_step κ C o ii ls st M = some r) : cd_Lin (fun κ C => cd_step κ C o ii ls st M) κ C r := by
  obtain ⟨i, p, c, a, b, t⟩ := o
  cases i
  case iconst _ =>
    exact cd_Lin.go h
  case bipush _ =>
    exact cd_Lin.go h
  case sipush _ =>
    exact cd_Lin.go h
  case lconst _ =>
    exact cd_Lin.go h
  case ldc _ =>
    exact cd_Lin.go h
  case ldc_w _ =>
    exact cd_Lin.go h
  case ldc2_w _ =>
    exact cd_Lin.go h
  case goto _ =>
    exact cd_Lin.go h
  case new _ =>
    exact cd_Lin.ite (s1 := fun κ _ => κ _ _ _ _) (s2 := fun _ _ => none) (fun h => cd_Lin.go h) cd_Lin.no h
  case aload i =>
    simp only [cd_step] at h ⊢
    split at h
    · exact cd_Lin.go h
    · exact cd_Lin.no h
  case aload_n i =>
    simp only [cd_step] at h ⊢
    split at h
    · exact cd_Lin.go h
    · exact cd_Lin.no h
  case iload i =>
    simp only [cd_step] at h ⊢
    split at h
    · exact cd_Lin.go h
    · exact cd_Lin.no h
  case iload_n i =>
    simp only [cd_step] at h ⊢
    split at h
    · exact cd_Lin.go h
    · exact cd_Lin.no h
  case lload i =>
    simp only [cd_step] at h ⊢
    split at h
    · exact cd_Lin.go h
    · exact cd_Lin.no h
  case lload_n i =>
    simp only [cd_step] at h ⊢
    split at h
    · exact cd_Lin.go h
    · exact cd_Lin.no h
  case astore i =>
    simp only [cd_step] at h ⊢
    split at h
    · exact cd_Lin.go h
    · exact cd_Lin.no h
  case astore_n i =>
    simp only [cd_step] at h ⊢
    split at h
    · exact cd_Lin.go h
    · exact cd_Lin.no h
  case istore i =>
    simp only [cd_step] at h ⊢
    split at h
    · exact cd_Lin.go h
    · exact cd_Lin.no h
  case istore_n i =>
    simp only [cd_step] at h ⊢
    split at h
    · exact cd_Lin.go h
    · exact cd_Lin.no h
  case lstore i =>
    simp only [cd_step] at h ⊢
    split at h
    · exact cd_Lin.go h
    · exact cd_Lin.no h
  case lstore_n i =>
    simp only [cd_step] at h ⊢
    split at h
    · exact cd_Lin.go h
    · exact cd_Lin.no h
  case iadd =>
    simp only [cd_step] at h ⊢
    split at h
    · exact cd_Lin.go h
    · exact cd_Lin.no h
  case isub =>
    simp only [cd_step] at h ⊢
    split at h
    · exact cd_Lin.go h
    · exact cd_Lin.no h
  case imul =>
    simp only [cd_step] at h ⊢
    split at h
    · exact cd_Lin.go h
    · exact cd_Lin.no h
  case iand =>
    simp only [cd_step] at h ⊢
    split at h
    · exact cd_Lin.go h
    · exact cd_Lin.no h
  case ior =>
    simp only [cd_step] at h ⊢
    split at h
    · exact cd_Lin.go h
    · exact cd_Lin.no h
  case ixor =>
    simp only [cd_step] at h ⊢
    split at h
    · exact cd_Lin.go h
    · exact cd_Lin.no h
  case ineg =>
    simp only [cd_step] at h ⊢
    split at h
    · exact cd_Lin.go h
    · exact cd_Lin.no h
  case ishl =>
    simp only [cd_step] at h ⊢
    split at h
    · exact cd_Lin.go h
    · exact cd_Lin.no h
  case ishr =>
    simp only [cd_step] at h ⊢
    split at h
    · exact cd_Lin.go h
    · exact cd_Lin.no h
  case iushr =>
    simp only [cd_step] at h ⊢
    split at h
    · exact cd_Lin.go h
    · exact cd_Lin.no h
  case ladd =>
    simp only [cd_step] at h ⊢
    split at h
    · exact cd_Lin.go h
    · exact cd_Lin.no h
  case lsub =>
    simp only [cd_step] at h ⊢
    split at h
    · exact cd_Lin.go h
    · exact cd_Lin.no h
  case lmul =>
    simp only [cd_step] at h ⊢
    split at h
    · exact cd_Lin.go h
    · exact cd_Lin.no h
  case land =>
    simp only [cd_step] at h ⊢
    split at h
    · exact cd_Lin.go h
    · exact cd_Lin.no h
  case lor =>
    simp only [cd_step] at h ⊢
    split at h
    · exact cd_Lin.go h
    · exact cd_Lin.no h
  case lxor =>
    simp only [cd_step] at h ⊢
    split at h
    · exact cd_Lin.go h
    · exact cd_Lin.no h
  case lneg =>
    simp only [cd_step] at h ⊢
    split at h
    · exact cd_Lin.go h
    · exact cd_Lin.no h
  case lshl =>
    simp only [cd_step] at h ⊢
    split at h
    · exact cd_Lin.go h
    · exact cd_Lin.no h
  case lshr =>
    simp only [cd_step] at h ⊢
    split at h
    · exact cd_Lin.go h
    · exact cd_Lin.no h
  case lushr =>
    simp only [cd_step] at h ⊢
    split at h
    · exact cd_Lin.go h
    · exact cd_Lin.no h
  case lcmp =>
    simp only [cd_step] at h ⊢
    split at h
    · exact cd_Lin.go h
    · exact cd_Lin.no h
  case i2l =>
    simp only [cd_step] at h ⊢
    split at h
    · exact cd_Lin.go h
    · exact cd_Lin.no h
  case l2i =>
    simp only [cd_step] at h ⊢
    split at h
    · exact cd_Lin.go h
    · exact cd_Lin.no h
  case dup =>
    simp only [cd_step] at h ⊢
    split at h
    · exact cd_Lin.go h
    · exact cd_Lin.go h
    · exact cd_Lin.no h
  case dup2 =>
    simp only [cd_step] at h ⊢
    split at h
    · exact cd_Lin.go h
    · exact cd_Lin.go h
    · exact cd_Lin.no h
  case iinc i _ =>
    simp only [cd_step] at h ⊢
    split at h
    · exact cd_Lin.go h
    · exact cd_Lin.no h
  case idiv =>
    simp only [cd_step] at h ⊢
    split at h
    · exact cd_Lin.ite (s1 := fun _ _ => none) (s2 := fun κ _ => κ _ _ _ _) cd_Lin.no (fun h => cd_Lin.go h) h
    · exact cd_Lin.no h
  case irem =>
    simp only [cd_step] at h ⊢
    split at h
    · exact cd_Lin.ite (s1 := fun _ _ => none) (s2 := fun κ _ => κ _ _ _ _) cd_Lin.no (fun h => cd_Lin.go h) h
    · exact cd_Lin.no h
  case lrem =>
    simp only [cd_step] at h ⊢
    split at h
    · exact cd_Lin.ite (s1 := fun _ _ => none) (s2 := fun κ _ => κ _ _ _ _) cd_Lin.no (fun h => cd_Lin.go h) h
    · exact cd_Lin.no h
  case ifCond c _ =>
    simp only [cd_step] at h ⊢
    split at h
    · cases c <;> exact cd_Lin.ite (s1 := fun κ _ => κ _ _ _ _) (s2 := fun κ _ => κ _ _ _ _) (fun h => cd_Lin.go h) (fun h => cd_Lin.go h) h
    · exact cd_Lin.no h
  case if_icmp c _ =>
    simp only [cd_step] at h ⊢
    split at h
    · cases c <;> exact cd_Lin.ite (s1 := fun κ _ => κ _ _ _ _) (s2 := fun κ _ => κ _ _ _ _) (fun h => cd_Lin.go h) (fun h => cd_Lin.go h) h
    · exact cd_Lin.no h
  case tableswitch _ _ _ _ =>
    simp only [cd_step] at h ⊢
    split at h
    · exact cd_Lin.sw _ _ h
    · exact cd_Lin.no h
  case getfield _ =>
    simp only [cd_step] at h ⊢
    split at h
    · cases c <;> exact cd_Lin.ite (s2 := fun _ _ => none) (fun h => by first | exact cd_Lin.go h | exact cd_Lin.no h) cd_Lin.no h
    · exact cd_Lin.no h
  case putfield _ =>
    simp only [cd_step] at h ⊢
    split at h
    · exact cd_Lin.g3 h
    · exact cd_Lin.ite (s1 := fun κ _ => κ _ _ _ _) (s2 := fun _ _ => none) (fun h => cd_Lin.go h) cd_Lin.no h
    · exact cd_Lin.ite (s1 := fun κ _ => κ _ _ _ _) (s2 := fun _ _ => none) (fun h => cd_Lin.go h) cd_Lin.no h
    · exact cd_Lin.no h
  case iaload =>
    simp only [cd_step] at h ⊢
    split at h
    · exact cd_Lin.ite (s1 := fun κ _ => κ _ _ _ _) (s2 := fun _ _ => none) (fun h => cd_Lin.go h) cd_Lin.no h
    · exact cd_Lin.no h
  case baload =>
    simp only [cd_step] at h ⊢
    split at h
    · exact cd_Lin.ite (s1 := fun κ _ => κ _ _ _ _) (s2 := fun _ _ => none) (fun h => cd_Lin.go h) cd_Lin.no h
    · exact cd_Lin.no h
  case laload =>
    simp only [cd_step] at h ⊢
    split at h
    · exact cd_Lin.ite (s1 := fun κ _ => κ _ _ _ _) (s2 := fun _ _ => none) (fun h => cd_Lin.go h) cd_Lin.no h
    · exact cd_Lin.no h
  case aaload =>
    simp only [cd_step] at h ⊢
    split at h
    · exact cd_Lin.ite (s1 := fun κ _ => κ _ _ _ _) (s2 := fun _ _ => none) (fun h => cd_Lin.go h) cd_Lin.no h
    · exact cd_Lin.no h
  case iastore =>
    simp only [cd_step] at h ⊢
    split at h
    · exact cd_Lin.ite (s1 := fun κ _ => κ _ _ _ _) (s2 := fun _ _ => none) (fun h => cd_Lin.go h) cd_Lin.no h
    · exact cd_Lin.no h
  case lastore =>
    simp only [cd_step] at h ⊢
    split at h
    · exact cd_Lin.ite (s1 := fun κ _ => κ _ _ _ _) (s2 := fun _ _ => none) (fun h => cd_Lin.go h) cd_Lin.no h
    · exact cd_Lin.no h
  case aastore =>
    simp only [cd_step] at h ⊢
    split at h
    · exact cd_Lin.ite (s1 := fun κ _ => κ _ _ _ _) (s2 := fun _ _ => none) (fun h => cd_Lin.go h) cd_Lin.no h
    · exact cd_Lin.no h
  case arraylength =>
    simp only [cd_step] at h ⊢
    split at h
    · exact cd_Lin.ite (s1 := fun κ _ => κ _ _ _ _) (s2 := fun _ _ => none) (fun h => cd_Lin.go h) cd_Lin.no h
    · exact cd_Lin.no h
  case bastore =>
    simp only [cd_step] at h ⊢
    split at h
    · exact cd_Lin.gg h
    · exact cd_Lin.no h
  case newarray _ =>
    simp only [cd_step] at h ⊢
    split at h
    · exact cd_Lin.ite (s1 := fun _ _ => none) (s2 := fun κ _ => κ _ _ _ _) cd_Lin.no (fun h => cd_Lin.go h) h
    · exact cd_Lin.no h
  case anewarray _ =>
    simp only [cd_step] at h ⊢
    split at h
    · exact cd_Lin.ite (s1 := fun _ _ => none) (s2 := fun κ _ => κ _ _ _ _) cd_Lin.no (fun h => cd_Lin.go h) h
    · exact cd_Lin.no h
  case invokespecial _ =>
    simp only [cd_step] at h ⊢
    split at h
    · refine cd_Lin.bf (fun h => ?_) h
      split at h
      · exact cd_Lin.ite (s1 := fun κ _ => κ _ _ _ _) (s2 := fun _ _ => none) (fun h => cd_Lin.go h) cd_Lin.no h
      · exact cd_Lin.ite (s1 := fun κ C => (cd_cv (C _ _ _)).bind fun q => κ _ _ _ q) (s2 := fun _ _ => none) (fun h => cd_Lin.cv (f := fun κ q => κ _ _ _ q) (fun _ _ => rfl) h) cd_Lin.no h
    · exact cd_Lin.no h
  case invokestatic _ =>
    simp only [cd_step] at h ⊢
    split at h
    · split at h
      · exact cd_Lin.bg h
      · exact cd_Lin.no h
    · split at h
      · exact cd_Lin.bf (s1 := fun κ _ => κ _ _ _ _) (fun h => cd_Lin.go h) h
      · exact cd_Lin.no h
    · split at h
      · exact cd_Lin.bf (s1 := fun κ _ => κ _ _ _ _) (fun h => cd_Lin.go h) h
      · exact cd_Lin.no h
    · split at h
      · exact cd_Lin.bf (s1 := fun κ _ => κ _ _ _ _) (fun h => cd_Lin.go h) h
      · exact cd_Lin.no h
    · cases c <;> first
        | exact cd_Lin.bf (s1 := fun κ C => (cd_ci (C _ _ _)).bind fun q => κ _ _ _ q.2) (fun h => cd_Lin.ci (f := fun κ q => κ _ _ _ q.2) (fun _ _ => rfl) h) h
        | exact cd_Lin.bf (s1 := fun κ C => (cd_cl (C _ _ _)).bind fun q => κ _ _ _ q.2) (fun h => cd_Lin.cl (f := fun κ q => κ _ _ _ q.2) (fun _ _ => rfl) h) h
        | exact cd_Lin.bf (s1 := fun κ C => (cd_cv (C _ _ _)).bind fun q => κ _ _ _ q) (fun h => cd_Lin.cv (f := fun κ q => κ _ _ _ q) (fun _ _ => rfl) h) h
        | exact cd_Lin.bf (s1 := fun _ _ => none) cd_Lin.no h
  case invokevirtual _ =>
    simp only [cd_step] at h ⊢
    split at h
    · split at h
      · exact cd_Lin.bg h
      · exact cd_Lin.no h
    · split at h
      · exact cd_Lin.bg h
      · exact cd_Lin.no h
    · split at h
      · cases c
        all_goals first | exact cd_Lin.bgi h | exact cd_Lin.bgl h | exact cd_Lin.bgv h | exact cd_Lin.bgn h
      · exact cd_Lin.no h
  case ireturn =>
    simp only [cd_step] at h ⊢
    split at h
    · exact cd_Lin.r2 h
    · exact cd_Lin.no h
  case lreturn =>
    simp only [cd_step] at h ⊢
    split at h
    · exact Or.inr (Or.inr fun _ _ => h)
    · exact cd_Lin.no h
  case return_ =>
    simp only [cd_step] at h ⊢
    split at h
    · exact Or.inr (Or.inr fun _ _ => h)
    · exact cd_Lin.no h
  all_goals exact cd_Lin.no h
