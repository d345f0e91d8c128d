/-! ===== the class: copies, hands, seeds, images ===== -/
section CGP
variable {L : Nat} {w : Bool} {I : Nat → Nat → Int32} {J : Nat → Nat → Int64} {D : cd_D} {S : cd_S}
variable {Y : ce_Y} {p s u z : Nat}
theorem cp_39 (hs : s = 22 ∨ s = 45 ∨ s = 50 ∨ s = 54) (hu : u = 45 ∨ u = 50 ∨ u = 54 ∨ u = 79 ∨ u = 96) (hd : u + 3 < s ∨ s + 3 < u) : cw L w (cd_c 39 [.ref s, .ref u] (cd_mm L w I J)) (fun v I1 J1 => v = none ∧ J1 = J ∧ (∀ a j, ¬ (s ≤ a ∧ a ≤ s + 3) → I1 a j = I a j) ∧ ∀ (D : cd_D) (S : cd_S), D 0 0 ≤ 8 → D 0 2 ≤ 12 → cf_S D S u I → cf_S D S s I1) := by
  refine cw_c (l := [.ref s, .ref u]) (by rcases hs with rfl | rfl | rfl | rfl <;> rcases hu with rfl | rfl | rfl | rfl | rfl <;> rfl) (by rcases hs with rfl | rfl | rfl | rfl <;> rcases hu with rfl | rfl | rfl | rfl | rfl <;> rfl) ?_
  refine cw_m (fun _ => cd_s39_0 hs hu) ?_
  rw [show (0 : Int32).toNatClampNeg = 0 from rfl, show (8 : Int32).toNatClampNeg = 8 from rfl, show (12 : Int32).toNatClampNeg = 12 from rfl]
  generalize hX1 : cd_cpI I (u + 1) 0 (s + 1) 0 8 = X1
  generalize hX2 : cd_cpI X1 (u + 2) 0 (s + 2) 0 12 = X2
  generalize hX3 : cd_cpI X2 (u + 3) 0 (s + 3) 0 12 = X3
  have a1 : ∀ b j, b ≠ s + 1 → X1 b j = I b j := fun b j h => by rw [← hX1]; unfold cd_cpI; rw [if_neg h]
  have a2 : ∀ b j, b ≠ s + 2 → X2 b j = X1 b j := fun b j h => by rw [← hX2]; unfold cd_cpI; rw [if_neg h]
  have a3 : ∀ b j, b ≠ s + 3 → X3 b j = X2 b j := fun b j h => by rw [← hX3]; unfold cd_cpI; rw [if_neg h]
  have b1 : ∀ j, j < 8 → X1 (s + 1) j = I (u + 1) j := fun j h => by rw [← hX1]; unfold cd_cpI; rw [if_pos rfl, sb_cpy0 h]
  have b2 : ∀ j, j < 12 → X2 (s + 2) j = X1 (u + 2) j := fun j h => by rw [← hX2]; unfold cd_cpI; rw [if_pos rfl, sb_cpy0 h]
  have b3 : ∀ j, j < 12 → X3 (s + 3) j = X2 (u + 3) j := fun j h => by rw [← hX3]; unfold cd_cpI; rw [if_pos rfl, sb_cpy0 h]
  clear hX1 hX2 hX3
  refine cw_ret ⟨rfl, rfl, fun a j h => ?_, fun D S h8 h12 hQ => ⟨⟨?_, ?_⟩, fun t ht => ?_, fun k hk => ⟨?_, ?_⟩⟩⟩
  · rw [cd_up_k2 (by omega), cd_up_k2 (by omega), a3 a j (by omega), a2 a j (by omega), a1 a j (by omega)]
  · rw [cd_up_k (by decide), cd_up_s, a3 _ _ (by omega), a2 _ _ (by omega), a1 _ _ (by omega)]
    exact hQ.1.1
  · rw [cd_up_s, cd_up_a (by omega), a3 _ _ (by omega), a2 _ _ (by omega), a1 _ _ (by omega)]
    exact hQ.1.2
  · rw [cd_up_a (by omega), cd_up_a (by omega), a3 _ _ (by omega), a2 _ _ (by omega), b1 t (by omega)]
    exact hQ.2.1 t ht
  · rw [cd_up_a (by omega), cd_up_a (by omega), a3 _ _ (by omega), b2 k (by omega), a1 _ _ (by omega)]
    exact (hQ.2.2 k hk).1
  · rw [cd_up_a (by omega), cd_up_a (by omega), b3 k (by omega), a2 _ _ (by omega), a1 _ _ (by omega)]
    exact (hQ.2.2 k hk).2
theorem cp_32 (hs : s = 22 ∨ s = 79 ∨ s = 96) {k : Nat} (hk : k < 12) {x y : Int32} : cd_c 32 [.ref s, .int (nI k), .int x, .int y] (cd_mm L w I J) = some (none, cd_mm L w (cd_up (cd_up I (s + 2) k x) (s + 3) k y) J) := by
  refine cd_c_of (l := [.ref s, .int (nI k), .int x, .int y]) (by rcases hs with rfl | rfl | rfl <;> rfl) (by rcases hs with rfl | rfl | rfl <;> rfl) (cd_s32_0 hs ?_)
  rw [if_pos (cd_inN hk (by decide)), if_pos (cd_inN hk (by decide)), nI_clamp (by omega)]
theorem cf_Z.st {S2 : cd_S} {I1 : Nat → Nat → Int32} (h : cf_Z D S Y w I J) (hY : ceU Y ≤ 4) (g : ∀ a k, a < 100 → ¬ (45 ≤ a ∧ a ≤ 48) → I1 a k = I a k) (hQ : cf_S D S2 45 I1) (h3 : S2 0 3 = S 0 3) : cf_Z D S2 Y w I1 J := by
  obtain ⟨a, b, c, d, e⟩ := h
  have hp := cf_ple w
  exact ⟨a.of (fun a k h1 h2 => g a k (by omega) (by omega)) (fun _ => rfl), hQ, by rw [h3]; exact (g _ _ (by omega) (by omega)).trans c, d.of hY (fun a k h => g a k (by omega) (by omega)), e.of (fun k _ => g _ _ (by omega) (by omega)) (fun _ => rfl)⟩
theorem cf_M.seed (hM : cf_M D S Y w I J) (hY : ceU Y ≤ 4) (v : Nat) : cf_M D (ce_s3 S v) Y w (cd_up I 2 16 (nI v)) J := by
  obtain ⟨⟨a, b, c, d, e⟩, f⟩ := hM
  have hp := cf_ple w
  have b1 : cf_S D S 45 (cd_up I 2 16 (nI v)) := b.of (fun a k h1 h2 => cd_up_k2 (by omega))
  exact ⟨⟨a.of (fun a k h1 h2 => cd_up_k2 (by omega)) (fun _ => rfl), b1, by rw [cd_up_s, ce_s3_3], d.of hY (fun a k h => cd_up_k2 (by omega)), e.of (fun k _ => cd_up_k2 (by omega)) (fun _ => rfl)⟩, f.of (fun a k h1 h2 => cd_up_k2 (by omega)) (fun _ => rfl)⟩
theorem cp_132n (hM : cf_M D S Y w I J) {x : Int32} (hx : x < 0) : cw L w (cd_c 132 [.ref 2, .int x] (cd_mm L w I J)) (cf_post (.int (-1002)) D S Y w I) := by
  refine cw_c (l := [_, _, _]) rfl rfl ?_
  refine cw_m (fun _ => cd_s132_0) ?_
  rw [if_pos hx]
  exact cw_ret ⟨rfl, hM, cf_fr.rf⟩
theorem cp_132 (hK : ce_ok D S Y) (hM : cf_M D S Y w I J) {v : Nat} (hv : v < 2 ^ 31) : cw L w (cd_c 132 [.ref 2, .int (nI v)] (cd_mm L w I J)) (cf_post (.int (nI (S 0 3))) D (ce_s3 S v) Y w I) := by
  refine cw_c (l := [_, _, _]) rfl rfl ?_
  refine cw_m (fun _ => cd_s132_0) ?_
  rw [if_neg (nI_pos hv), hM.1.2.2.1]
  exact cw_ret ⟨rfl, hM.seed hK.2.2.1.2.2.2.1 v, fun a k h => cd_up_k2 (by omega)⟩
theorem cf_sdI {v : Nat} (hv : v < 2 ^ 31) : ((((nI v).toInt64 * 1103515245) + 12345) &&& 2147483647).toInt32 = nI (ce_sd v) := by
  rw [nI_l hv, show (1103515245 : Int64) = lN 1103515245 from rfl, show (12345 : Int64) = lN 12345 from rfl, show (2147483647 : Int64) = lN (2 ^ 31 - 1) from rfl, lN_mul, lN_add, wb_mask (by omega) (by decide), lN_i]
  rfl
theorem cp_133 {v n : Nat} (hs : I 2 16 = nI v) (hv : v < 2 ^ 31) (h0 : 0 < n) (hn : n < 2 ^ 20) : cd_c 133 [.ref 2, .int (nI n)] (cd_mm L w I J) = some (some (.int (nI (ce_sd v / 65536 % n))), cd_mm L w (cd_up I 2 16 (nI (ce_sd v))) J) := by
  refine cw_eq ?_
  have hl := ce_sd_lt v
  have hr : nI (ce_sd v) / 65536 - nI (ce_sd v) / 65536 / nI n * nI n = nI (ce_sd v / 65536 % n) := by
    rw [show (65536 : Int32) = nI 65536 from rfl, pk_div (by omega) (by decide) (by decide), pk_rem (by omega) h0 (by omega)]
  refine cw_c (l := [_, _]) rfl rfl ?_
  refine cw_m (fun _ => cd_s133_0) ?_
  rw [hs, cf_sdI hv, cd_up_s, if_neg (fun q => by
    have := (nI_ltI (b := 1) (by omega) (by decide)).mp q
    omega), if_neg (nI_ne0 h0 (by omega)), hr]
  exact cw_ret ⟨rfl, rfl, rfl⟩
theorem cf_ih_f {x : Int32} (h : ce_ih x = false) : x < 1 ∨ 20 < x := by
  by_cases h1 : x < 1
  · exact Or.inl h1
  · refine Or.inr ?_
    unfold ce_ih at h
    rw [decide_eq_true (Int32.not_lt.mp h1), Bool.true_and, decide_eq_false_iff_not] at h
    exact Int32.not_le.mp h
theorem cp_134n (hM : cf_M D S Y w I J) {x y : Int32} (hx : ce_ih x = false ∨ ce_ix y 1000 = false) : cw L w (cd_c 134 [.ref 2, .int x, .int y] (cd_mm L w I J)) (cf_post (.int (-1002)) D S Y w I) := by
  refine cw_c (l := [_, _, _, _, _, _, _]) rfl rfl ?_
  refine cw_m (fun _ => cd_s134_0) ?_
  by_cases h1 : x < 1
  · rw [if_pos h1]; exact cw_ret ⟨rfl, hM, cf_fr.rf⟩
  · rw [if_neg h1]
    by_cases h2 : 20 < x
    · rw [if_pos h2]; exact cw_ret ⟨rfl, hM, cf_fr.rf⟩
    · rw [if_neg h2, cp_74, cw_bi]
      refine cw_m (fun _ => cd_s134_8) ?_
      rcases hx with h | h
      · rcases cf_ih_f h with q | q
        · exact absurd q h1
        · exact absurd q h2
      · rw [h, if_pos (show cd_tf false = 0 from rfl)]
        exact cw_ret ⟨rfl, hM, cf_fr.rf⟩
theorem cp_134s (hM : cf_M D S Y w I J) {x y : Int32} (hx : ce_ih x = true) (hy : ce_ix y 1000 = true) {Q : Option Value → (Nat → Nat → Int32) → (Nat → Nat → Int64) → Prop} (h : cw L w (if nI (D 0 0) = 0 then some (some (.int (-1003)), cd_mm L w I J) else cd_go 134 21 [.ref 2, .int x, .int y, .int 0, .int 0, .null, .null] [] (cd_mm L w I J)) Q) : cw L w (cd_c 134 [.ref 2, .int x, .int y] (cd_mm L w I J)) Q := by
  obtain ⟨t, t1, t2, rfl⟩ := ce_ih_t hx
  refine cw_c (l := [_, _, _, _, _, _, _]) rfl rfl ?_
  refine cw_m (fun _ => cd_s134_0) ?_
  rw [if_neg (fun q => by
    have := (nI_ltI (b := 1) (by omega) (by decide)).mp q
    omega), if_neg (fun q => by
    have := (nI_ltI (a := 20) (by decide) (by omega)).mp q
    omega), cp_74, cw_bi, hy]
  refine cw_m (fun _ => cd_s134_8) ?_
  rw [if_neg (show ¬ cd_tf true = 0 by decide), hM.1.1.1.1]
  exact h
theorem cp_134m (hM : cf_M D S Y w I J) {x y : Int32} (hx : ce_ih x = true) (hy : ce_ix y 1000 = true) (h0 : D 0 0 = 0) : cw L w (cd_c 134 [.ref 2, .int x, .int y] (cd_mm L w I J)) (cf_post (.int (-1003)) D S Y w I) := by
  refine cp_134s hM hx hy ?_
  rw [h0, if_pos (show nI 0 = 0 from rfl)]
  exact cw_ret ⟨rfl, hM, cf_fr.rf⟩
theorem cp_134 (hK : ce_ok D S Y) (hM : cf_M D S Y w I J) {n b : Nat} (h1 : 1 ≤ n) (h2 : n ≤ 20) (hb : b < 1000) (h0 : 0 < D 0 0) : cw L w (cd_c 134 [.ref 2, .int (nI n), .int (nI b)] (cd_mm L w I J)) (cf_post (.int (nI (ce_bu D b S (ceE Y) n).2.2)) D (ce_bu D b S (ceE Y) n).1 (ceSE Y (ce_bu D b S (ceE Y) n).2.1) w I) := by
  have h8 := hK.1.1.1
  have hU := hK.2.2.1.2.2.2.1
  refine cp_134s hM (ce_ih_n h1 h2) (ce_ix_n hb (by decide)) ?_
  rw [if_neg (nI_ne0 h0 (by omega))]
  have ok := ce_bu_ok hK b
  generalize hbu : ce_bu D b S (ceE Y) = bu at *
  have bs : ∀ i, bu (i + 1) = ce_bs D b (bu i) := fun i => by rw [← hbu]; rfl
  have b0 : bu 0 = (S, ceE Y, 0) := by rw [← hbu]; rfl
  clear hbu
  have go := cw_up (L := L) (w := w) (Q := cf_post (.int (nI (bu n).2.2)) D (bu n).1 (ceSE Y (bu n).2.1) w I) (fun i (y : (Nat → Nat → Int32) × (Nat → Nat → Int64) × Value × Value) => cd_go 134 21 [.ref 2, .int (nI n), .int (nI b), .int (nI (bu i).2.2), .int (nI i), y.2.2.1, y.2.2.2] [] (cd_mm L w y.1 y.2.1)) (fun i y => cf_M D (bu i).1 (ceSE Y (bu i).2.1) w y.1 y.2.1 ∧ cf_fr I y.1) n ?_ ?_ 0 (I, J, .null, .null) (Nat.zero_le _) ?_
  · rw [b0] at go
    exact go
  · intro ⟨I1, J1, v5, v6⟩ ⟨M1, f1⟩
    show cw L w (cd_go 134 21 _ _ (cd_mm L w I1 J1)) _
    refine cw_m (fun _ => cd_s134_21) ?_
    rw [if_neg (fun h => Int32.lt_irrefl h)]
    exact cw_ret ⟨rfl, M1, f1⟩
  · intro i ⟨I1, J1, v5, v6⟩ hi ⟨M1, f1⟩ K
    replace M1 : cf_M D (bu i).1 (ceSE Y (bu i).2.1) w I1 J1 := M1
    replace f1 : cf_fr I I1 := f1
    obtain ⟨k1, k2⟩ := ok i
    have bsi := bs i
    generalize bu i = X at *
    have hs3 := k1.2.1.2.2.2.2
    have hl1 := ce_sd_lt (X.1 0 3)
    have hl2 := ce_sd_lt (ce_sd (X.1 0 3))
    show cw L w (cd_go 134 21 [.ref 2, .int (nI n), .int (nI b), .int (nI X.2.2), .int (nI i), v5, v6] [] (cd_mm L w I1 J1)) _
    refine cw_m (fun _ => cd_s134_21) ?_
    rw [if_pos (nI_lt hi (by omega)), M1.1.1.1.1, cp_133 M1.1.2.2.1 hs3 h0 (by omega), cw_bi]
    refine cw_m (fun _ => cd_s134_29) ?_
    rw [nI_1, cp_133 (v := ce_sd (X.1 0 3)) cd_up_s hl1 (by omega) (by omega), cw_bi, cd_up_up]
    refine cw_m (fun _ => cd_s134_35) ?_
    have M2 := M1.seed hU (ce_sd (ce_sd (X.1 0 3)))
    have K2 : ce_ok D (ce_s3 X.1 (ce_sd (ce_sd (X.1 0 3)))) (ceSE Y X.2.1) := ⟨k1.1, ce_s3_ok k1.2.1 hl2, k1.2.2⟩
    have ht8 : ce_sd (X.1 0 3) / 65536 % D 0 0 < D 0 0 := Nat.mod_lt _ h0
    have hb8 : ce_sd (ce_sd (X.1 0 3)) / 65536 % (b + 1) < b + 1 := Nat.mod_lt _ (by omega)
    refine cw_cv (cw_mono (cp_82p (o := some (ce_sd (X.1 0 3) / 65536 % D 0 0)) (b := ce_sd (ce_sd (X.1 0 3)) / 65536 % (b + 1)) K2 M2 (fun u h => by cases h; omega) (by omega)) ?_)
    intro v I2 J2 ⟨hv, M3, f3⟩
    refine ⟨hv, ?_⟩
    refine cw_m (fun _ => cd_s134_47) ?_
    have hlen : I2 42 2 = nI (ce_bR D b X).1.length := M3.1.2.2.2.1.2.2.2.1.1
    rw [hlen, nI_add, nI_1]
    have := K (I2, J2, .int (nI (ce_sd (X.1 0 3) / 65536 % D 0 0)), .int (nI (ce_sd (ce_sd (X.1 0 3)) / 65536 % (b + 1)))) ⟨by rw [bsi]; exact M3, f1.tr (cf_fr.tr (fun a k h => cd_up_k2 (by omega)) f3)⟩
    rw [bsi] at this
    exact this
  · rw [b0]
    exact ⟨hM, cf_fr.rf⟩
end CGP
