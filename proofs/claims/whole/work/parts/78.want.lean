/-! ===== the reference: want ===== -/
/-- the want's word behind the room: 1 high .. 4 stands -/
def ce_ww (x : Nat → Nat) (s m : Nat) : Option Nat := if ce_wdr x s m [104, 103, 105, 104] then some 1 else if ce_wdr x s m [107, 114, 97, 100] then some 2 else if ce_wdr x s m [114, 111, 111, 100] then some 3 else if ce_wdr x s m [115, 100, 110, 97, 116, 115] then some 4 else none
theorem ce_ww_b {x : Nat → Nat} {s m v : Nat} (h : ce_ww x s m = some v) : 1 ≤ v ∧ v ≤ 4 := by
  unfold ce_ww at h
  repeat' split at h
  all_goals first | cases h; decide | cases h
def ce_pU (x : Nat → Nat) (n e v : Nat) : Except (Nat × Nat) (Nat × Nat) := if v = 1 then ce_bd (ce_num x n 1 21 e) fun a => .ok (a.1, a.2.2) else if v = 2 then ce_bd (ce_num x n 0 100 e) fun a => .ok (a.1, a.2.2) else .ok (1, e)
def ce_pV (x : Nat → Nat) (n : Nat) : Nat → Nat → Nat → (Nat → Nat) → Except (Nat × Nat) (Nat → Nat)
  | 0, _, _, V => .ok V
  | f + 1, c, q, V => if ce_sk x n q < n then (match ce_ww x (ce_sk x n q) (ce_we x n (ce_sk x n q) - ce_sk x n q) with
    | none => .error (1, ce_sk x n q)
    | some v => if c < v then ce_bd (ce_pU x n (ce_we x n (ce_sk x n q)) v) fun a => ce_pV x n f v a.2 (fun k => if k = v then a.1 else V k) else .error (1, ce_sk x n q)) else .ok V
def ce_V0 (r : Nat) : Nat → Nat := fun k => if k = 0 then r else if k = 1 then 5 else if k = 2 then 99 else 0
def ce_want (x : Nat → Nat) (n : Nat) : Except (Nat × Nat) (Nat → Nat) := if ce_wdr x (ce_sk x n 0) (ce_we x n (ce_sk x n 0) - ce_sk x n 0) [109, 111, 111, 114] then ce_bd (ce_num x n 0 65 (ce_we x n (ce_sk x n 0))) fun a => ce_pV x n 5 0 a.2.2 (ce_V0 a.1) else .error (1, ce_sk x n 0)
def ce_okV (V : Nat → Nat) : Prop := V 0 ≤ 64 ∧ 1 ≤ V 1 ∧ V 1 ≤ 20 ∧ V 2 ≤ 99 ∧ V 3 ≤ 1 ∧ V 4 ≤ 1
theorem ce_pU_ok {x : Nat → Nat} {n e v : Nat} (he : e ≤ n) : (∀ {b z}, ce_pU x n e v = .ok (b, z) → e ≤ z ∧ z ≤ n ∧ (v = 1 → 1 ≤ b ∧ b ≤ 20) ∧ (v = 2 → b ≤ 99) ∧ (3 ≤ v → b = 1)) ∧ ∀ {f p}, ce_pU x n e v = .error (f, p) → (f = 1 ∨ f = 2) ∧ p ≤ n := by
  refine ⟨fun {b z} h => ?_, fun {f p} h => ?_⟩
  · unfold ce_pU at h
    split at h
    · obtain ⟨⟨u, s, z2⟩, a1, h⟩ := ce_bd_ok h
      have := ce_num_b he a1
      cases h
      dsimp only
      omega
    · split at h
      · obtain ⟨⟨u, s, z2⟩, a1, h⟩ := ce_bd_ok h
        have := ce_num_b he a1
        cases h
        dsimp only
        omega
      · cases h
        omega
  · unfold ce_pU at h
    split at h
    · rcases ce_bd_er h with h | ⟨⟨u, s, z2⟩, a1, h⟩
      · exact ce_num_e he h
      · cases h
    · split at h
      · rcases ce_bd_er h with h | ⟨⟨u, s, z2⟩, a1, h⟩
        · exact ce_num_e he h
        · cases h
      · cases h
theorem ce_pV_ok {x : Nat → Nat} {n : Nat} : ∀ (f : Nat) {c q : Nat} {V : Nat → Nat}, q ≤ n → ce_okV V → (∀ {V1}, ce_pV x n f c q V = .ok V1 → ce_okV V1) ∧ ∀ {g p}, ce_pV x n f c q V = .error (g, p) → (1 ≤ g ∧ g ≤ 5) ∧ p ≤ n := by
  intro f
  induction f with
  | zero =>
    intro c q V hq hV
    refine ⟨fun h => ?_, fun h => ?_⟩
    · cases h; exact hV
    · cases h
  | succ f ih =>
    intro c q V hq hV
    have hsk : ce_sk x n q ≤ n := (ce_end_b (p := fun k => !decide (x k = 32)) hq).2.1
    have hwe : ce_we x n (ce_sk x n q) ≤ n := (ce_end_b (p := fun k => !ce_let (x k)) hsk).2.1
    have nx : ∀ {v b z}, ce_ww x (ce_sk x n q) (ce_we x n (ce_sk x n q) - ce_sk x n q) = some v → ce_pU x n (ce_we x n (ce_sk x n q)) v = .ok (b, z) → z ≤ n ∧ ce_okV (fun k => if k = v then b else V k) := fun {v b z} hv h => by
      obtain ⟨h1, h2, h3, h4, h5⟩ := (ce_pU_ok hwe).1 h
      obtain ⟨b1, b2⟩ := ce_ww_b hv
      obtain ⟨v0, v1, v1', v2, v3, v4⟩ := hV
      refine ⟨h2, ?_, ?_, ?_, ?_, ?_, ?_⟩ <;> dsimp only <;> split <;> omega
    refine ⟨fun {V1} h => ?_, fun {g p} h => ?_⟩
    · unfold ce_pV at h
      split at h
      · split at h
        · cases h
        · rename_i v hv
          split at h
          · obtain ⟨⟨b, z⟩, a1, h⟩ := ce_bd_ok h
            have := nx hv a1
            exact (ih this.1 this.2).1 h
          · cases h
      · cases h; exact hV
    · unfold ce_pV at h
      split at h
      · split at h
        · cases h; omega
        · rename_i v hv
          split at h
          · rcases ce_bd_er h with h | ⟨⟨b, z⟩, a1, h⟩
            · have := (ce_pU_ok hwe).2 h
              omega
            · have := nx hv a1
              exact (ih this.1 this.2).2 h
          · cases h; omega
      · cases h
theorem ce_want_ok {x : Nat → Nat} {n : Nat} : (∀ {V1}, ce_want x n = .ok V1 → ce_okV V1) ∧ ∀ {g p}, ce_want x n = .error (g, p) → (1 ≤ g ∧ g ≤ 5) ∧ p ≤ n := by
  have hsk : ce_sk x n 0 ≤ n := (ce_end_b (p := fun k => !decide (x k = 32)) (Nat.zero_le n)).2.1
  have hwe : ce_we x n (ce_sk x n 0) ≤ n := (ce_end_b (p := fun k => !ce_let (x k)) hsk).2.1
  have nx : ∀ {r s e}, ce_num x n 0 65 (ce_we x n (ce_sk x n 0)) = .ok (r, s, e) → e ≤ n ∧ ce_okV (ce_V0 r) := fun {r s e} h => by
    have := ce_num_b hwe h
    refine ⟨by omega, ?_, ?_, ?_, ?_, ?_, ?_⟩ <;> simp [ce_V0]
    omega
  refine ⟨fun {V1} h => ?_, fun {g p} h => ?_⟩
  · unfold ce_want at h
    split at h
    · obtain ⟨⟨r, s, e⟩, a1, h⟩ := ce_bd_ok h
      have := nx a1
      exact (ce_pV_ok 5 this.1 this.2).1 h
    · cases h
  · unfold ce_want at h
    split at h
    · rcases ce_bd_er h with h | ⟨⟨r, s, e⟩, a1, h⟩
      · have := ce_num_e hwe h
        omega
      · have := nx a1
        exact (ce_pV_ok 5 this.1 this.2).2 h
    · cases h; omega
section CFO
variable {L : Nat} {w : Bool} {I : Nat → Nat → Int32} {J : Nat → Nat → Int64} {D : cd_D} {S : cd_S}
variable {x : Nat → Nat} {n q s m : Nat} {Y : ce_Y}
theorem cp_155_high : cd_c 155 [.int 104, .int 105, .int 103, .int 104] (cd_mm L w I J) = some (some (.long (lN (ce_cl [104, 103, 105, 104]))), cd_mm L w I J) := cp_155 (a := 104) (b := 105) (c := 103) (d := 104) (by decide) (by decide) (by decide) (by decide)
theorem cp_155_dark : cd_c 155 [.int 100, .int 97, .int 114, .int 107] (cd_mm L w I J) = some (some (.long (lN (ce_cl [107, 114, 97, 100]))), cd_mm L w I J) := cp_155 (a := 100) (b := 97) (c := 114) (d := 107) (by decide) (by decide) (by decide) (by decide)
theorem cp_155_door : cd_c 155 [.int 100, .int 111, .int 111, .int 114] (cd_mm L w I J) = some (some (.long (lN (ce_cl [114, 111, 111, 100]))), cd_mm L w I J) := cp_155 (a := 100) (b := 111) (c := 111) (d := 114) (by decide) (by decide) (by decide) (by decide)
theorem cp_155_stan : cd_c 155 [.int 115, .int 116, .int 97, .int 110] (cd_mm L w I J) = some (some (.long (lN (ce_cl [110, 97, 116, 115]))), cd_mm L w I J) := cp_155 (a := 115) (b := 116) (c := 97) (d := 110) (by decide) (by decide) (by decide) (by decide)
theorem cp_155_room : cd_c 155 [.int 114, .int 111, .int 111, .int 109] (cd_mm L w I J) = some (some (.long (lN (ce_cl [109, 111, 111, 114]))), cd_mm L w I J) := cp_155 (a := 114) (b := 111) (c := 111) (d := 109) (by decide) (by decide) (by decide) (by decide)
theorem cp_237 (hx : ∀ k, x k < 256) (hm : ∀ i, i < m → ce_let (x (s + i)) = true) (hj : J 100 21 = lN (ce_cdn x s m)) : cd_c 237 [.ref 100] (cd_mm L w I J) = some (some (.int (cd_oi (ce_ww x s m))), cd_mm L w I J) := by
  have c1 := ce_cmp hx hm [104, 103, 105, 104] (by decide) (by decide)
  have c2 := ce_cmp hx hm [107, 114, 97, 100] (by decide) (by decide)
  have c3 := ce_cmp hx hm [114, 111, 111, 100] (by decide) (by decide)
  have c4 := ce_cmp hx hm [115, 100, 110, 97, 116, 115] (by decide) (by decide)
  refine cw_eq ?_
  refine cw_c (l := [_, _]) rfl rfl ?_
  refine cw_m (fun _ => cd_s237_0) ?_
  rw [cp_155_high, cw_bl, hj]
  refine cw_m (fun _ => cd_s237_7) ?_
  unfold ce_ww
  by_cases h1 : ce_wdr x s m [104, 103, 105, 104] = true
  · rw [if_pos (c1.mpr h1), if_pos h1]
    exact cw_ret ⟨rfl, rfl, rfl⟩
  · rw [if_neg (fun q => h1 (c1.mp q)), if_neg h1, cp_155_dark, cw_bl, hj]
    refine cw_m (fun _ => cd_s237_18) ?_
    by_cases h2 : ce_wdr x s m [107, 114, 97, 100] = true
    · rw [if_pos (c2.mpr h2), if_pos h2]
      exact cw_ret ⟨rfl, rfl, rfl⟩
    · rw [if_neg (fun q => h2 (c2.mp q)), if_neg h2, cp_155_door, cw_bl, hj]
      refine cw_m (fun _ => cd_s237_29) ?_
      by_cases h3 : ce_wdr x s m [114, 111, 111, 100] = true
      · rw [if_pos (c3.mpr h3), if_pos h3]
        exact cw_ret ⟨rfl, rfl, rfl⟩
      · rw [if_neg (fun q => h3 (c3.mp q)), if_neg h3, cp_155_stan, cw_bl, hj]
        refine cw_m (fun _ => cd_s237_46) ?_
        rw [show (100 : Int32) = nI 100 from rfl, cp_156 (by decide), cw_bl]
        refine cw_m (fun _ => cd_s237_48) ?_
        rw [show (115 : Int32) = nI 115 from rfl, cp_156 (by decide), cw_bl]
        refine cw_m (fun _ => cd_s237_50) ?_
        by_cases h4 : ce_wdr x s m [115, 100, 110, 97, 116, 115] = true
        · rw [if_pos (c4.mpr h4), if_pos h4]
          exact cw_ret ⟨rfl, rfl, rfl⟩
        · rw [if_neg (fun q => h4 (c4.mp q)), if_neg h4]
          exact cw_ret ⟨rfl, rfl, rfl⟩
end CFO
