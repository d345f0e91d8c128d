/-! ===== the big machine's heap, by the small machine's memory ===== -/
/-- the setting: class numbers and slots; array classes by kind; the script's cell; where new cells begin; strings and their bytes; the script -/
abbrev cd_G : Type := va_G × (Nat → ClassId) × Nat × Nat × (Nat → Nat) × (Nat → Nat) × Nat × (Nat → Int32)
def cd_bs (G : cd_G) : Nat := G.2.2.2.1
def cd_A (G : cd_G) : Nat → Prop := fun q => cd_bs G ≤ q
def cd_ad (G : cd_G) (k : Nat) : Nat := if k = 1 then G.2.2.1 else if k < 1000 then cd_bs G + (k - 2) else G.2.2.2.2.1 (k - 1000)
def cd_tv (G : cd_G) (v : Value) : Value := match v with
  | .ref k => if k = 0 then .null else .ref (cd_ad G k)
  | v => v
theorem cd_tv_cat (G : cd_G) (v : Value) : (cd_tv G v).category = v.category := by
  cases v with
  | ref k => unfold cd_tv; split <;> (try split) <;> simp_all [Value.category]
  | _ => rfl
theorem cd_tv_ref {G : cd_G} {k : Nat} (h : k ≠ 0) : cd_tv G (.ref k) = .ref (cd_ad G k) := by simp [cd_tv, h]
def cd_fv (G : cd_G) (M : cd_M) (c a k : Nat) : Value := match cd_ft c k with
  | .long => .long (cd_L M a k)
  | .object _ => cd_tv G (.ref (cd_R M a k))
  | .array _ => cd_tv G (.ref (cd_R M a k))
  | _ => .int (cd_I M a k)
def cd_av (G : cd_G) (M : cd_M) (t a k : Nat) : Value := if t = 21 then .long (cd_L M a k) else if t = 23 ∨ t = 24 then cd_tv G (.ref (cd_R M a k)) else .int (cd_I M a k)
def cd_aty (t : Nat) : FieldType := if t = 20 then .int else if t = 21 then .long else if t = 22 then .boolean else if t = 23 then .object "ChairDen$State" else .object "ChairDen$Want"
/-- a cell -/
def cd_ce (G : cd_G) (M : cd_M) (a : Nat) (H : Heap) : Prop :=
  (cd_k M a < 12 ∧ cd_n M a = cd_nf (cd_k M a) ∧ t_OB (cd_ad G a) (G.1.1 (cd_k M a)) (cd_nf (cd_k M a)) (G.1.2 (cd_k M a)) H (cd_fv G M (cd_k M a) a)) ∨
  (20 ≤ cd_k M a ∧ cd_k M a ≤ 24 ∧ H[cd_ad G a]? = some (arrV (G.2.1 (cd_k M a)) (cd_n M a) (cd_av G M (cd_k M a) a)))
def cd_sl (K : List (Nat × Nat)) : Nat := (K.map (fun q => q.2)).sum
def cd_Rp (G : cd_G) (M : cd_M) (H : Heap) : Prop :=
  H.size = cd_bs G + (M.1.length - 2) ∧ 2 ≤ M.1.length ∧ M.1.length ≤ 900 ∧ M.1[0]? = some (99, 0) ∧ M.1[1]? = some (25, G.2.2.2.2.2.2.1) ∧ (∀ j, j < G.2.2.2.2.2.2.1 → cd_I M 1 j = G.2.2.2.2.2.2.2 j) ∧ ∀ a, 2 ≤ a → a < M.1.length → cd_ce G M a H
theorem cd_k_lt {M : cd_M} {a t : Nat} (h : cd_k M a = t) (ht : t ≠ 99) : a < M.1.length := by
  rcases Nat.lt_or_ge a M.1.length with h1 | h1
  · exact h1
  · unfold cd_k at h
    rw [List.getD_eq_getElem?_getD, List.getElem?_eq_none h1] at h
    exact absurd h.symm ht
theorem cd_k_0 {G : cd_G} {M : cd_M} {H : Heap} (hP : cd_Rp G M H) : cd_k M 0 = 99 := by
  unfold cd_k; rw [List.getD_eq_getElem?_getD, hP.2.2.2.1]; rfl
theorem cd_k_1 {G : cd_G} {M : cd_M} {H : Heap} (hP : cd_Rp G M H) : cd_k M 1 = 25 ∧ cd_n M 1 = G.2.2.2.2.2.2.1 := by
  constructor
  · unfold cd_k; rw [List.getD_eq_getElem?_getD, hP.2.2.2.2.1]; rfl
  · unfold cd_n; rw [List.getD_eq_getElem?_getD, hP.2.2.2.2.1]; rfl
theorem cd_k_2 {G : cd_G} {M : cd_M} {H : Heap} (hP : cd_Rp G M H) {a t : Nat} (h : cd_k M a = t) (ht : t < 25) : 2 ≤ a ∧ a < M.1.length := by
  have h1 := cd_k_lt h (by omega)
  refine ⟨?_, h1⟩
  rcases Nat.lt_or_ge a 2 with h2 | h2
  · rcases (show a = 0 ∨ a = 1 by omega) with rfl | rfl
    · rw [cd_k_0 hP] at h; omega
    · rw [(cd_k_1 hP).1] at h; omega
  · exact h2
theorem cd_ad_of {G : cd_G} {M : cd_M} {H : Heap} (hP : cd_Rp G M H) {a : Nat} (h2 : 2 ≤ a) (hl : a < M.1.length) : cd_ad G a = cd_bs G + (a - 2) ∧ cd_bs G ≤ cd_ad G a ∧ cd_ad G a < H.size := by
  have h9 := hP.2.2.1
  have e : cd_ad G a = cd_bs G + (a - 2) := by
    unfold cd_ad
    rw [if_neg (by omega), if_pos (by omega)]
  refine ⟨e, by omega, ?_⟩
  rw [hP.1]
  omega
theorem cd_ad_inj {G : cd_G} {M : cd_M} {H : Heap} (hP : cd_Rp G M H) {a a' : Nat} (h2 : 2 ≤ a) (hl : a < M.1.length) (h2' : 2 ≤ a') (hl' : a' < M.1.length) (h : cd_ad G a = cd_ad G a') : a = a' := by
  have h1 := (cd_ad_of hP h2 hl).1
  have h3 := (cd_ad_of hP h2' hl').1
  omega
theorem cd_obj {G : cd_G} {M : cd_M} {H : Heap} (hP : cd_Rp G M H) {a t : Nat} (h : cd_k M a = t) (ht : t < 12) : 2 ≤ a ∧ a < M.1.length ∧ cd_n M a = cd_nf t ∧ t_OB (cd_ad G a) (G.1.1 t) (cd_nf t) (G.1.2 t) H (cd_fv G M t a) := by
  obtain ⟨h1, h2⟩ := cd_k_2 hP h (by omega)
  rcases hP.2.2.2.2.2.2 a h1 h2 with h3 | h3
  · rw [h] at h3
    exact ⟨h1, h2, h3.2.1, h3.2.2⟩
  · rw [h] at h3
    omega
theorem cd_arr {G : cd_G} {M : cd_M} {H : Heap} (hP : cd_Rp G M H) {a t : Nat} (h : cd_k M a = t) (ht : 20 ≤ t) (ht2 : t ≤ 24) : 2 ≤ a ∧ a < M.1.length ∧ H[cd_ad G a]? = some (arrV (G.2.1 t) (cd_n M a) (cd_av G M t a)) := by
  obtain ⟨h1, h2⟩ := cd_k_2 hP h (by omega)
  rcases hP.2.2.2.2.2.2 a h1 h2 with h3 | h3
  · rw [h] at h3
    omega
  · rw [h] at h3
    exact ⟨h1, h2, h3.2.2⟩
/-- a cell is written: the others stay -/
theorem cd_Rp.put {G : cd_G} {M M' : cd_M} {H H' : Heap} (hP : cd_Rp G M H) {a : Nat} (h2 : 2 ≤ a) (hl : a < M.1.length) (hK : M'.1 = M.1) (hI1 : ∀ j, cd_I M' 1 j = cd_I M 1 j)
    (hv : ∀ a', a' ≠ a → (∀ k, cd_I M' a' k = cd_I M a' k) ∧ (∀ k, cd_L M' a' k = cd_L M a' k) ∧ ∀ k, cd_R M' a' k = cd_R M a' k) (hz : H'.size = H.size) (ho : ∀ q, q ≠ cd_ad G a → H'[q]? = H[q]?) (hc : cd_ce G M' a H') : cd_Rp G M' H' := by
  refine ⟨by rw [hz, hK]; exact hP.1, by rw [hK]; exact hP.2.1, by rw [hK]; exact hP.2.2.1, by rw [hK]; exact hP.2.2.2.1, by rw [hK]; exact hP.2.2.2.2.1, fun j hj => by rw [hI1]; exact hP.2.2.2.2.2.1 j hj, fun a' h2' hl' => ?_⟩
  rw [hK] at hl'
  by_cases ha : a' = a
  · subst ha; exact hc
  · obtain ⟨v1, v2, v3⟩ := hv a' ha
    have hne : cd_ad G a' ≠ cd_ad G a := fun e => ha (cd_ad_inj hP h2' hl' h2 hl e)
    have kk : cd_k M' a' = cd_k M a' := by unfold cd_k; rw [hK]
    have nn : cd_n M' a' = cd_n M a' := by unfold cd_n; rw [hK]
    have fe : ∀ t, cd_fv G M' t a' = cd_fv G M t a' := fun t => by funext k; unfold cd_fv; rw [v1, v2, v3]
    have ae : ∀ t, cd_av G M' t a' = cd_av G M t a' := fun t => by funext k; unfold cd_av; rw [v1, v2, v3]
    rcases hP.2.2.2.2.2.2 a' h2' hl' with h3 | h3
    · refine Or.inl ⟨by rw [kk]; exact h3.1, by rw [nn, kk]; exact h3.2.1, ?_⟩
      rw [kk, fe]
      exact h3.2.2.kept (ho _ hne)
    · refine Or.inr ⟨by rw [kk]; exact h3.1, by rw [kk]; exact h3.2.1, ?_⟩
      rw [kk, nn, ae, ho _ hne]
      exact h3.2.2
theorem cd_up_eq {α : Type} (f : Nat → Nat → α) (a k : Nat) (v : α) (k' : Nat) : cd_up f a k v a k' = if k' = k then v else f a k' := by simp [cd_up]
theorem cd_up_ne {α : Type} (f : Nat → Nat → α) {a a' : Nat} (k : Nat) (v : α) (h : a' ≠ a) (k' : Nat) : cd_up f a k v a' k' = f a' k' := by simp [cd_up, h]
/-- locals -/
def cd_pl (G : cd_G) : Nat → List Value → List (Nat × Value)
  | _, [] => []
  | i, v :: r => if cd_nz v = true then (i, cd_tv G v) :: cd_pl G (i + 1) r else cd_pl G (i + 1) r
theorem cd_pl_mem {G : cd_G} : ∀ (l : List Value) (i : Nat) (q : Nat × Value), q ∈ cd_pl G i l ↔ ∃ j v, l[j]? = some v ∧ cd_nz v = true ∧ q = (i + j, cd_tv G v) := by
  intro l
  induction l with
  | nil => intro i q; simp [cd_pl]
  | cons w r ih =>
    intro i q
    unfold cd_pl
    by_cases hw : cd_nz w = true
    · rw [if_pos hw, List.mem_cons, ih]
      constructor
      · rintro (h | ⟨j, v, h1, h2, h3⟩)
        · exact ⟨0, w, by simp, hw, by rw [h]; rfl⟩
        · exact ⟨j + 1, v, by simpa using h1, h2, by rw [h3]; congr 1; omega⟩
      · rintro ⟨j, v, h1, h2, h3⟩
        cases j with
        | zero => simp at h1; subst h1; exact Or.inl h3
        | succ j => exact Or.inr ⟨j, v, by simpa using h1, h2, by rw [h3]; congr 1; omega⟩
    · rw [if_neg hw, ih]
      constructor
      · rintro ⟨j, v, h1, h2, h3⟩
        exact ⟨j + 1, v, by simpa using h1, h2, by rw [h3]; congr 1; omega⟩
      · rintro ⟨j, v, h1, h2, h3⟩
        cases j with
        | zero => simp at h1; subst h1; exact absurd h2 hw
        | succ j => exact ⟨j, v, by simpa using h1, h2, by rw [h3]; congr 1; omega⟩
def cd_Ls (G : cd_G) (nL : Nat) (ls : List Value) (lr : Array Slot) : Prop := lv_has lr nL (cd_pl G 0 ls)
theorem cd_Ls.at {G : cd_G} {nL : Nat} {ls : List Value} {lr : Array Slot} (h : cd_Ls G nL ls lr) {i : Nat} {v : Value} (hi : ls[i]? = some v) (hv : cd_nz v = true) : lr[i]? = some (.val (cd_tv G v)) := by
  have := h.2.2 (i, cd_tv G v) ((cd_pl_mem ls 0 _).mpr ⟨i, v, hi, hv, by simp⟩)
  exact this
theorem cd_Ls.sub {G : cd_G} {nL : Nat} {ls : List Value} {lr : Array Slot} {l : List (Nat × Value)} (h : lv_has lr nL l) (hs : ∀ j v, ls[j]? = some v → cd_nz v = true → (j, cd_tv G v) ∈ l) : cd_Ls G nL ls lr := by
  refine ⟨h.1, h.2.1, fun q hq => ?_⟩
  obtain ⟨j, v, h1, h2, rfl⟩ := (cd_pl_mem ls 0 q).mp hq
  have := h.2.2 _ (hs j v h1 h2)
  simpa using this
theorem cd_kill_get (ls : List Value) (i j : Nat) (v : Value) (h : (cd_kill ls i)[j]? = some v) (hv : cd_nz v = true) : ls[j]? = some v ∧ ¬ (j = i ∧ ∃ x, v = .long x) := by
  unfold cd_kill at h
  split at h
  · rename_i x hx
    by_cases hj : j = i
    · subst hj
      have hl : j < ls.length := (List.getElem?_eq_some_iff.mp hx).1
      rw [List.getElem?_set_self hl] at h
      rw [← Option.some.inj h] at hv
      cases hv
    · rw [List.getElem?_set_ne (Ne.symm hj)] at h
      exact ⟨h, fun z => hj z.1⟩
  · rename_i hx
    refine ⟨h, fun z => ?_⟩
    obtain ⟨rfl, x, rfl⟩ := z
    exact hx x h
theorem cd_s1_get (ls : List Value) (i j : Nat) (w v : Value) (h : (cd_s1 ls i w)[j]? = some v) (hv : cd_nz v = true) : (j = i ∧ v = w) ∨ (j ≠ i ∧ ls[j]? = some v ∧ ¬ (j + 1 = i ∧ ∃ x, v = .long x)) := by
  cases i with
  | zero =>
    unfold cd_s1 at h
    by_cases hj : j = 0
    · subst hj
      cases ls with
      | nil => simp at h
      | cons a r => simp at h; exact Or.inl ⟨rfl, h.symm⟩
    · rw [List.getElem?_set_ne (fun e => hj e.symm)] at h
      exact Or.inr ⟨hj, h, fun z => by omega⟩
  | succ i =>
    unfold cd_s1 at h
    by_cases hj : j = i + 1
    · subst hj
      have hl := (List.getElem?_eq_some_iff.mp h).1
      rw [List.length_set] at hl
      rw [List.getElem?_set_self hl] at h
      exact Or.inl ⟨rfl, (Option.some.inj h).symm⟩
    · rw [List.getElem?_set_ne (fun e => hj e.symm)] at h
      obtain ⟨h1, h2⟩ := cd_kill_get _ _ _ _ h hv
      exact Or.inr ⟨hj, h1, fun z => h2 ⟨by omega, z.2⟩⟩
theorem cd_nz_cat {v : Value} (h : cd_nz v = true) (h2 : v.category = 2) : ∃ x, v = .long x := by
  cases v with
  | long x => exact ⟨x, rfl⟩
  | int x => cases h2
  | ref x => cases h2
  | _ => cases h
theorem cd_Ls.st1 {G : cd_G} {nL i : Nat} {ls : List Value} {w : Value} {lr : Array Slot} (h : lv_has lr nL ((i, cd_tv G w) :: (cd_pl G 0 ls).filter (fun q => !(q.1 == i) && !(q.1 + 1 == i && q.2.category == 2)))) : cd_Ls G nL (cd_s1 ls i w) lr := by
  refine cd_Ls.sub h fun j v h1 h2 => ?_
  rcases cd_s1_get ls i j w v h1 h2 with ⟨rfl, rfl⟩ | ⟨g1, g2, g3⟩
  · exact List.mem_cons_self
  · refine List.mem_cons_of_mem _ (List.mem_filter.mpr ⟨(cd_pl_mem ls 0 _).mpr ⟨j, v, g2, h2, by simp⟩, ?_⟩)
    have e1 : (j == i) = false := by simpa using g1
    simp only [e1, Bool.not_false, Bool.true_and]
    by_cases hji : j + 1 = i
    · have : ¬ (cd_tv G v).category = 2 := by
        rw [cd_tv_cat]
        intro hc
        exact g3 ⟨hji, cd_nz_cat h2 hc⟩
      simp [this]
    · simp [hji]
theorem cd_Ls.st2 {G : cd_G} {nL i : Nat} {ls : List Value} {w : Value} {lr : Array Slot} (h : lv_has lr nL ((i, cd_tv G w) :: (cd_pl G 0 ls).filter (fun q => !(q.1 == i) && (!(q.1 == i + 1) && !(q.1 + 1 == i && q.2.category == 2))))) : cd_Ls G nL (cd_s2 ls i w) lr := by
  refine cd_Ls.sub h fun j v h1 h2 => ?_
  unfold cd_s2 at h1
  have hj1 : j ≠ i + 1 := by
    rintro rfl
    have hl := (List.getElem?_eq_some_iff.mp h1).1
    rw [List.length_set] at hl
    rw [List.getElem?_set_self hl] at h1
    rw [← Option.some.inj h1] at h2
    cases h2
  rw [List.getElem?_set_ne (fun e => hj1 e.symm)] at h1
  rcases cd_s1_get ls i j w v h1 h2 with ⟨rfl, rfl⟩ | ⟨g1, g2, g3⟩
  · exact List.mem_cons_self
  · refine List.mem_cons_of_mem _ (List.mem_filter.mpr ⟨(cd_pl_mem ls 0 _).mpr ⟨j, v, g2, h2, by simp⟩, ?_⟩)
    have e1 : (j == i) = false := by simpa using g1
    have e2 : (j == i + 1) = false := by simpa using hj1
    simp only [e1, e2, Bool.not_false, Bool.true_and]
    by_cases hji : j + 1 = i
    · have : ¬ (cd_tv G v).category = 2 := by
        rw [cd_tv_cat]
        intro hc
        exact g3 ⟨hji, cd_nz_cat h2 hc⟩
      simp [this]
    · simp [hji]
