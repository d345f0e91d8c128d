/-! ===== the reference: a kind's word, a clause's word ===== -/
theorem ce_lNeq {a b : Nat} (ha : a < 2 ^ 63) (hb : b < 2 ^ 63) : lN a = lN b ↔ a = b := by
  refine ⟨fun h => ?_, fun h => by rw [h]⟩
  have h2 : (lN a).toBitVec.toNat = (lN b).toBitVec.toNat := by rw [h]
  rwa [lN_nat (by omega), lN_nat (by omega)] at h2
/-- is the word in hand this one? -/
theorem ce_cmp {x : Nat → Nat} {s m : Nat} (hx : ∀ k, x k < 256) (hm : ∀ i, i < m → ce_let (x (s + i)) = true) (l : List Nat) (hl : ∀ c, c ∈ l → 97 ≤ c ∧ c ≤ 122) (hb : ce_cl l ≤ 1000000000000) : (lg_cmp (lN (ce_cdn x s m)) (lN (ce_cl l)) = 0) ↔ ce_wdr x s m l = true := by
  have := ce_cdn_b (s := s) hx m
  rw [lg_cmp_eq, ce_lNeq (by omega) (by omega), ce_cdn_wd l m hm hl hb]
theorem ce_we_let {x : Nat → Nat} {n q : Nat} (hq : q ≤ n) : ∀ i, i < ce_we x n q - q → ce_let (x (q + i)) = true := by
  intro i hi
  obtain ⟨b1, b2, b3, b4⟩ := ce_end_b (p := fun k => !ce_let (x k)) hq
  have := b4 (q + i) (by omega) (by replace hi : i < ce_end (fun k => !ce_let (x k)) n q - q := hi; omega)
  replace this : (!ce_let (x (q + i))) = false := this
  cases h : ce_let (x (q + i)) with
  | true => rfl
  | false => rw [h] at this; cases this
section CFH
variable {L : Nat} {w : Bool} {I : Nat → Nat → Int32} {J : Nat → Nat → Int64} {D : cd_D} {S : cd_S}
variable {x : Nat → Nat} {n q s m : Nat}
theorem cp_155_laid : cd_c 155 [.int 108, .int 97, .int 105, .int 100] (cd_mm L w I J) = some (some (.long (lN (ce_cl [100, 105, 97, 108]))), cd_mm L w I J) := cp_155 (a := 108) (b := 97) (c := 105) (d := 100) (by decide) (by decide) (by decide) (by decide)
theorem cp_155_tied : cd_c 155 [.int 116, .int 105, .int 101, .int 100] (cd_mm L w I J) = some (some (.long (lN (ce_cl [100, 101, 105, 116]))), cd_mm L w I J) := cp_155 (a := 116) (b := 105) (c := 101) (d := 100) (by decide) (by decide) (by decide) (by decide)
theorem cp_155_book : cd_c 155 [.int 98, .int 111, .int 111, .int 107] (cd_mm L w I J) = some (some (.long (lN (ce_cl [107, 111, 111, 98]))), cd_mm L w I J) := cp_155 (a := 98) (b := 111) (c := 111) (d := 107) (by decide) (by decide) (by decide) (by decide)
theorem cp_155_trap : cd_c 155 [.int 116, .int 114, .int 97, .int 112] (cd_mm L w I J) = some (some (.long (lN (ce_cl [112, 97, 114, 116]))), cd_mm L w I J) := cp_155 (a := 116) (b := 114) (c := 97) (d := 112) (by decide) (by decide) (by decide) (by decide)
theorem cp_155_thin : cd_c 155 [.int 116, .int 104, .int 105, .int 110] (cd_mm L w I J) = some (some (.long (lN (ce_cl [110, 105, 104, 116]))), cd_mm L w I J) := cp_155 (a := 116) (b := 104) (c := 105) (d := 110) (by decide) (by decide) (by decide) (by decide)
theorem cp_155_clot : cd_c 155 [.int 99, .int 108, .int 111, .int 116] (cd_mm L w I J) = some (some (.long (lN (ce_cl [116, 111, 108, 99]))), cd_mm L w I J) := cp_155 (a := 99) (b := 108) (c := 111) (d := 116) (by decide) (by decide) (by decide) (by decide)
theorem cp_155_hold : cd_c 155 [.int 104, .int 111, .int 108, .int 100] (cd_mm L w I J) = some (some (.long (lN (ce_cl [100, 108, 111, 104]))), cd_mm L w I J) := cp_155 (a := 104) (b := 111) (c := 108) (d := 100) (by decide) (by decide) (by decide) (by decide)
theorem cp_155_ligh : cd_c 155 [.int 108, .int 105, .int 103, .int 104] (cd_mm L w I J) = some (some (.long (lN (ce_cl [104, 103, 105, 108]))), cd_mm L w I J) := cp_155 (a := 108) (b := 105) (c := 103) (d := 104) (by decide) (by decide) (by decide) (by decide)
/-- tied or trapped, if no word before -/
theorem cp_163t (hx : ∀ k, x k < 256) (hm : ∀ i, i < m → ce_let (x (s + i)) = true) (hj : J 100 21 = lN (ce_cdn x s m)) {o : Option Nat} (ho : ∀ v, o = some v → v < 5) : cw L w (cd_go 163 38 [.ref 100, .int (cd_oi o), .null] [.long (lN (ce_cl [100, 101, 105, 116])), .long (lN (ce_cdn x s m))] (cd_mm L w I J)) (fun v I2 J2 => v = some (.int (cd_oi (match o with
    | some v => some v
    | none => if ce_wdr x s m [100, 101, 105, 116] then some 3 else if ce_wdr x s m [100, 101, 112, 112, 97, 114, 116] then some 4 else none))) ∧ I2 = I ∧ J2 = J) := by
  have c1 := ce_cmp hx hm [100, 101, 105, 116] (by decide) (by decide)
  have c2 := ce_cmp hx hm [100, 101, 112, 112, 97, 114, 116] (by decide) (by decide)
  have neg : (cd_oi o < 0) ↔ o = none := Iff.of_eq (cw_oi (fun k h => by have := ho k h; omega))
  refine cw_m (fun _ => cd_s163_38) ?_
  by_cases h1 : ce_wdr x s m [100, 101, 105, 116] = true
  · rw [if_pos (c1.mpr h1)]
    cases o with
    | some v => rw [if_neg (fun q => by cases neg.mp q)]; exact cw_ret ⟨rfl, rfl, rfl⟩
    | none => rw [if_pos (neg.mpr rfl)]; refine cw_ret ⟨?_, rfl, rfl⟩; dsimp only; rw [if_pos h1]; rfl
  · rw [if_neg (fun q => h1 (c1.mp q)), cp_155_trap, cw_bl]
    refine cw_m (fun _ => cd_s163_49) ?_
    rw [show (112 : Int32) = nI 112 from rfl, cp_156 (by decide), cw_bl]
    refine cw_m (fun _ => cd_s163_51) ?_
    rw [show (101 : Int32) = nI 101 from rfl, cp_156 (by decide), cw_bl]
    refine cw_m (fun _ => cd_s163_53) ?_
    rw [show (100 : Int32) = nI 100 from rfl, cp_156 (by decide), cw_bl]
    refine cw_m (fun _ => cd_s163_55) ?_
    rw [hj]
    by_cases h2 : ce_wdr x s m [100, 101, 112, 112, 97, 114, 116] = true
    · rw [if_pos (c2.mpr h2)]
      cases o with
      | some v => rw [if_neg (fun q => by cases neg.mp q)]; exact cw_ret ⟨rfl, rfl, rfl⟩
      | none => rw [if_pos (neg.mpr rfl)]; refine cw_ret ⟨?_, rfl, rfl⟩; dsimp only; rw [if_neg h1, if_pos h2]; rfl
    · rw [if_neg (fun q => h2 (c2.mp q))]
      cases o with
      | some v => rw [if_neg (fun q => by cases neg.mp q)]; exact cw_ret ⟨rfl, rfl, rfl⟩
      | none => rw [if_pos (neg.mpr rfl)]; refine cw_ret ⟨?_, rfl, rfl⟩; dsimp only; rw [if_neg h1, if_neg h2]; rfl
theorem cp_163 (hx : ∀ k, x k < 256) (hm : ∀ i, i < m → ce_let (x (s + i)) = true) (hj : J 100 21 = lN (ce_cdn x s m)) : cd_c 163 [.ref 100] (cd_mm L w I J) = some (some (.int (cd_oi (ce_kw x s m))), cd_mm L w I J) := by
  have c1 := ce_cmp hx hm [100, 105, 97, 108] (by decide) (by decide)
  have c2 := ce_cmp hx hm [103, 101, 112] (by decide) (by decide)
  have c3 := ce_cmp hx hm [107, 111, 111, 98] (by decide) (by decide)
  refine cw_eq ?_
  refine cw_c (l := [_, _, _]) rfl rfl ?_
  refine cw_m (fun _ => cd_s163_0) ?_
  rw [cp_155_laid, cw_bl, hj]
  refine cw_m (fun _ => cd_s163_7) ?_
  rw [cp_155_tied, cw_bl, hj, cp_155_book, cw_bl, cw_bl]
  by_cases h1 : ce_wdr x s m [100, 105, 97, 108] = true
  · rw [if_pos (c1.mpr h1)]
    have := cp_163t (L := L) (w := w) (I := I) (J := J) hx hm hj (o := some 0) (fun v h => by cases h; decide)
    unfold ce_kw
    rw [if_pos h1]
    exact this
  · rw [if_neg (fun q => h1 (c1.mp q))]
    by_cases h2 : ce_wdr x s m [103, 101, 112] = true
    · rw [if_pos (show lg_cmp (lN (ce_cdn x s m)) 11806 = 0 from c2.mpr h2)]
      have := cp_163t (L := L) (w := w) (I := I) (J := J) hx hm hj (o := some 1) (fun v h => by cases h; decide)
      unfold ce_kw
      rw [if_neg h1, if_pos h2]
      exact this
    · rw [if_neg (show ¬ lg_cmp (lN (ce_cdn x s m)) 11806 = 0 from fun q => h2 (c2.mp q))]
      refine cw_m (fun _ => cd_s163_25) ?_
      rw [cp_155_tied, cw_bl, cw_bl, hj]
      by_cases h3 : ce_wdr x s m [107, 111, 111, 98] = true
      · rw [if_pos (c3.mpr h3)]
        have := cp_163t (L := L) (w := w) (I := I) (J := J) hx hm hj (o := some 2) (fun v h => by cases h; decide)
        unfold ce_kw
        rw [if_neg h1, if_neg h2, if_pos h3]
        exact this
      · rw [if_neg (fun q => h3 (c3.mp q))]
        have := cp_163t (L := L) (w := w) (I := I) (J := J) hx hm hj (o := none) (fun v h => by cases h)
        unfold ce_kw
        rw [if_neg h1, if_neg h2, if_neg h3]
        exact this
theorem cp_167 (hx : ∀ k, x k < 256) (hm : ∀ i, i < m → ce_let (x (s + i)) = true) (hj : J 100 21 = lN (ce_cdn x s m)) : cd_c 167 [.ref 100] (cd_mm L w I J) = some (some (.int (cd_oi (ce_cw x s m))), cd_mm L w I J) := by
  have c1 := ce_cmp hx hm [103, 110, 105, 104, 116] (by decide) (by decide)
  have c2 := ce_cmp hx hm [104, 116, 111, 108, 99] (by decide) (by decide)
  have c3 := ce_cmp hx hm [100, 108, 111, 104] (by decide) (by decide)
  have c4 := ce_cmp hx hm [116, 104, 103, 105, 108] (by decide) (by decide)
  have c5 := ce_cmp hx hm [114, 97, 98] (by decide) (by decide)
  refine cw_eq ?_
  refine cw_c (l := [_, _, _, _]) rfl rfl ?_
  refine cw_m (fun _ => cd_s167_0) ?_
  rw [cp_155_thin, cw_bl, hj]
  refine cw_m (fun _ => cd_s167_9) ?_
  rw [show (103 : Int32) = nI 103 from rfl, cp_156 (by decide), cw_bl]
  refine cw_m (fun _ => cd_s167_11) ?_
  unfold ce_cw
  by_cases h1 : ce_wdr x s m [103, 110, 105, 104, 116] = true
  · rw [if_pos (c1.mpr h1), if_pos h1]
    exact cw_ret ⟨rfl, rfl, rfl⟩
  · rw [if_neg (fun q => h1 (c1.mp q)), if_neg h1, cp_155_clot, cw_bl, hj]
    refine cw_m (fun _ => cd_s167_22) ?_
    rw [show (104 : Int32) = nI 104 from rfl, cp_156 (by decide), cw_bl]
    refine cw_m (fun _ => cd_s167_24) ?_
    by_cases h2 : ce_wdr x s m [104, 116, 111, 108, 99] = true
    · rw [if_pos (c2.mpr h2), if_pos h2]
      exact cw_ret ⟨rfl, rfl, rfl⟩
    · rw [if_neg (fun q => h2 (c2.mp q)), if_neg h2, cp_155_hold, cw_bl, hj]
      refine cw_m (fun _ => cd_s167_35) ?_
      by_cases h3 : ce_wdr x s m [100, 108, 111, 104] = true
      · rw [if_pos (c3.mpr h3), if_pos h3]
        exact cw_ret ⟨rfl, rfl, rfl⟩
      · rw [if_neg (fun q => h3 (c3.mp q)), if_neg h3, cp_155_ligh, cw_bl, hj]
        refine cw_m (fun _ => cd_s167_52) ?_
        rw [show (116 : Int32) = nI 116 from rfl, cp_156 (by decide), cw_bl]
        refine cw_m (fun _ => cd_s167_54) ?_
        rw [hj]
        by_cases h4 : ce_wdr x s m [116, 104, 103, 105, 108] = true
        · rw [if_pos (c4.mpr h4), if_pos h4]
          exact cw_ret ⟨rfl, rfl, rfl⟩
        · rw [if_neg (fun q => h4 (c4.mp q)), if_neg h4]
          by_cases h5 : ce_wdr x s m [114, 97, 98] = true
          · rw [if_pos (show lg_cmp (lN (ce_cdn x s m)) 1503 = 0 from c5.mpr h5), if_pos h5]
            exact cw_ret ⟨rfl, rfl, rfl⟩
          · rw [if_neg (show ¬ lg_cmp (lN (ce_cdn x s m)) 1503 = 0 from fun q => h5 (c5.mp q)), if_neg h5]
            exact cw_ret ⟨rfl, rfl, rfl⟩
end CFH
