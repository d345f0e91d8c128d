/-! ===== the class: images, wants met, hands ===== -/
theorem cf_ixc {x : Int32} {n : Nat} (hn : n < 2 ^ 31) (h : ce_ix x n = false) {α : Type} {a b : α} : (if x < 0 then a else if x < nI n then b else a) = a := by
  rcases cf_ix_f hn h with q | q
  · rw [if_pos q]
  · rw [if_neg q]
    split <;> rfl
section CGQ
variable {L : Nat} {w : Bool} {I : Nat → Nat → Int32} {J : Nat → Nat → Int64} {D : cd_D} {S : cd_S}
variable {Y : ce_Y}
theorem cp_135n (hM : cf_M D S Y w I J) {x : Int32} (hx : ce_ix x 2 = false) : cw L w (cd_c 135 [.ref 2, .int x] (cd_mm L w I J)) (cf_post (.int (-1001)) D S Y w I) := by
  refine cw_c (l := [_, _]) rfl rfl ?_
  refine cw_m (fun _ => cd_q135_0) ?_
  rw [show (2 : Int32) = nI 2 from rfl, cf_ixc (by decide) hx]
  exact cw_ret ⟨rfl, hM, cf_fr.rf⟩
theorem cf_Ykeep (hM : cf_M D S Y w I J) (hK : ce_ok D S Y) {i : Nat} (hi : i < 2) {I1 : Nat → Nat → Int32} (f : ∀ a k, ¬ (50 + 4 * i ≤ a ∧ a ≤ 53 + 4 * i) → I1 a k = I a k) (hQ : cf_S D S (50 + 4 * i) I1) : cf_M D S (ceSK Y i S) w (cd_up (cd_up I1 59 i (nI (S 0 3))) 58 i 1) J := by
  obtain ⟨⟨a, b, c, ⟨d1, d2, d3, d4, d5⟩, e⟩, g⟩ := hM
  have hp := cf_ple w
  have hU := hK.2.2.1.2.2.2.1
  have r : ∀ a k, a ≠ 58 → a ≠ 59 → ¬ (50 + 4 * i ≤ a ∧ a ≤ 53 + 4 * i) → cd_up (cd_up I1 59 i (nI (S 0 3))) 58 i 1 a k = I a k := fun a k h1 h2 h3 => by rw [cd_up_a h1, cd_up_a h2, f a k h3]
  refine ⟨⟨a.of (fun a k h1 h2 => r a k (by omega) (by omega) (by omega)) (fun _ => rfl), b.of (fun a k h1 h2 => r a k (by omega) (by omega) (by omega)), (r _ _ (by omega) (by omega) (by omega)).trans c, ⟨⟨(r _ _ (by omega) (by omega) (by omega)).trans d1.1, (r _ _ (by omega) (by omega) (by omega)).trans d1.2.1, (r _ _ (by omega) (by omega) (by omega)).trans d1.2.2⟩, fun j hj => (r _ _ (by omega) (by omega) (by omega)).trans (d2 j hj), fun j hj k hk => (r _ _ (by omega) (by omega) (by omega)).trans (d3 j hj k hk), ⟨(r _ _ (by omega) (by omega) (by omega)).trans d4.1, fun j hj => ⟨(r _ _ (by omega) (by omega) (by omega)).trans (d4.2 j hj).1, (r _ _ (by omega) (by omega) (by omega)).trans (d4.2 j hj).2⟩⟩, fun j hj => ?_⟩, e.of (fun k _ => r _ _ (by omega) (by omega) (by omega)) (fun _ => rfl)⟩, g.of (fun a k h1 h2 => r a k (by omega) (by omega) (by omega)) (fun _ => rfl)⟩
  show cd_up (cd_up I1 59 i (nI (S 0 3))) 58 i 1 58 j = cd_tf (if j = i then true else ceB Y j) ∧ ((if j = i then true else ceB Y j) = true → cf_S D (if j = i then S else ceK Y j) (50 + 4 * j) _ ∧ cd_up (cd_up I1 59 i (nI (S 0 3))) 58 i 1 59 j = nI ((if j = i then S else ceK Y j) 0 3))
  by_cases hji : j = i
  · subst hji
    rw [if_pos rfl, if_pos rfl]
    refine ⟨cd_up_s, fun _ => ⟨hQ.of (fun a k h1 h2 => ?_), ?_⟩⟩
    · rw [cd_up_a (by omega), cd_up_a (by omega)]
    · rw [cd_up_a (by omega), cd_up_s]
  · rw [if_neg hji, if_neg hji]
    obtain ⟨e1, e2⟩ := d5 j hj
    refine ⟨?_, fun hb => ⟨(e2 hb).1.of (fun a k h1 h2 => r a k (by omega) (by omega) (by omega)), ?_⟩⟩
    · rw [cd_up_k hji, cd_up_a (by omega), f _ _ (by omega)]
      exact e1
    · rw [cd_up_a (by omega), cd_up_k hji, f _ _ (by omega)]
      exact (e2 hb).2
theorem cp_135 (hK : ce_ok D S Y) (hM : cf_M D S Y w I J) {i : Nat} (hi : i < 2) : cw L w (cd_c 135 [.ref 2, .int (nI i)] (cd_mm L w I J)) (cf_post (.int 1) D S (ceSK Y i S) w I) := by
  have h8 := hK.1.1.1
  have h12 := hK.1.1.2.2.1
  have fin : ∀ I1 : Nat → Nat → Int32, (∀ a k, ¬ (50 + 4 * i ≤ a ∧ a ≤ 53 + 4 * i) → I1 a k = I a k) → cf_S D S (50 + 4 * i) I1 → cw L w (cd_go 135 14 [.ref 2, .int (nI i)] [] (cd_mm L w I1 J)) (cf_post (.int 1) D S (ceSK Y i S) w I) := fun I1 f hQ => by
    refine cw_m (fun _ => cd_s135_14) ?_
    have hin : cd_in (nI i) 2 = true := cd_inN hi (by decide)
    rw [if_pos hin, if_pos hin, nI_clamp (by omega), f _ _ (by omega), hM.1.2.2.1]
    refine cw_ret ⟨rfl, cf_Ykeep hM hK hi f hQ, fun a k h => ?_⟩
    rw [cd_up_a (by omega), cd_up_a (by omega), f _ _ (by omega)]
  refine cw_c (l := [_, _]) rfl rfl ?_
  refine cw_m (fun _ => cd_q135_0) ?_
  rw [if_neg (nI_pos (by omega)), if_pos (show nI i < 2 from nI_lt (b := 2) hi (by decide))]
  have : i = 0 ∨ i = 1 := by omega
  rcases this with rfl | rfl
  · refine cw_if (fun _ => ?_) (fun q => absurd rfl q)
    refine cw_if (fun _ => ?_) (fun q => absurd ⟨rfl, rfl⟩ q)
    refine cw_if (fun _ => ?_) (fun q => absurd rfl q)
    refine cw_if (fun _ => ?_) (fun q => absurd rfl q)
    refine cw_cv (cw_mono (cp_39 (s := 50) (u := 45) (by decide) (by decide) (by decide)) ?_)
    intro v I1 J1 ⟨hv, hJ, f, hc⟩
    have hJ := hJ.symm
    subst hJ
    exact ⟨hv, fin I1 (fun a k h => f a k (by omega)) (hc D S h8 h12 hM.1.2.1)⟩
  · refine cw_if (fun _ => ?_) (fun q => absurd rfl q)
    refine cw_if (fun _ => ?_) (fun q => absurd ⟨rfl, rfl⟩ q)
    refine cw_if (fun _ => ?_) (fun q => absurd rfl q)
    refine cw_if (fun _ => ?_) (fun q => absurd rfl q)
    refine cw_cv (cw_mono (cp_39 (s := 54) (u := 45) (by decide) (by decide) (by decide)) ?_)
    intro v I1 J1 ⟨hv, hJ, f, hc⟩
    have hJ := hJ.symm
    subst hJ
    exact ⟨hv, fin I1 (fun a k h => f a k (by omega)) (hc D S h8 h12 hM.1.2.1)⟩
theorem cp_136n (hM : cf_M D S Y w I J) {x : Int32} (hx : ce_ix x 2 = false) : cw L w (cd_c 136 [.ref 2, .int x] (cd_mm L w I J)) (cf_post (.int (-1001)) D S Y w I) := by
  refine cw_c (l := [_, _]) rfl rfl ?_
  refine cw_m (fun _ => cd_q136_0) ?_
  rw [show (2 : Int32) = nI 2 from rfl, cf_ixc (by decide) hx]
  exact cw_ret ⟨rfl, hM, cf_fr.rf⟩
theorem cp_136m (hM : cf_M D S Y w I J) {i : Nat} (hi : i < 2) (hb : ceB Y i = false) : cw L w (cd_c 136 [.ref 2, .int (nI i)] (cd_mm L w I J)) (cf_post (.int (-1003)) D S Y w I) := by
  have hk := (hM.1.2.2.2.1.2.2.2.2 i hi).1
  rw [hb] at hk
  refine cw_c (l := [_, _]) rfl rfl ?_
  refine cw_m (fun _ => cd_q136_0) ?_
  rw [if_neg (nI_pos (by omega)), if_pos (show nI i < 2 from nI_lt (b := 2) hi (by decide))]
  refine cw_if (fun _ => ?_) (fun q => absurd rfl q)
  refine cw_if (fun _ => ?_) (fun q => absurd ⟨rfl, cd_inN (n := 2) hi (by decide)⟩ q)
  refine cw_if (fun _ => ?_) (fun q => absurd (show I 58 (nI i).toNatClampNeg = 0 by rw [nI_clamp (by omega)]; exact hk) q)
  exact cw_ret ⟨rfl, hM, cf_fr.rf⟩
theorem cf_Mback (hM : cf_M D S Y w I J) (hK : ce_ok D S Y) {T : cd_S} {I1 : Nat → Nat → Int32} (f : ∀ a k, ¬ (45 ≤ a ∧ a ≤ 48) → I1 a k = I a k) (hQ : cf_S D T 45 I1) : cf_M D T Y w (cd_up I1 2 16 (nI (T 0 3))) J := by
  obtain ⟨⟨a, b, c, d, e⟩, g⟩ := hM
  have hp := cf_ple w
  have hU := hK.2.2.1.2.2.2.1
  have r : ∀ a k, ¬ (45 ≤ a ∧ a ≤ 48) → ¬ (a = 2 ∧ k = 16) → cd_up I1 2 16 (nI (T 0 3)) a k = I a k := fun a k h1 h2 => by rw [cd_up_k2 h2, f a k h1]
  exact ⟨⟨a.of (fun a k h1 h2 => r a k (by omega) (by omega)) (fun _ => rfl), hQ.of (fun a k h1 h2 => cd_up_k2 (by omega)), cd_up_s, d.of hU (fun a k h => r a k (by omega) (by omega)), e.of (fun k _ => r _ _ (by omega) (by omega)) (fun _ => rfl)⟩, g.of (fun a k h1 h2 => r a k (by omega) (by omega)) (fun _ => rfl)⟩
theorem cp_136 (hK : ce_ok D S Y) (hM : cf_M D S Y w I J) {i : Nat} (hi : i < 2) (hb : ceB Y i = true) : cw L w (cd_c 136 [.ref 2, .int (nI i)] (cd_mm L w I J)) (cf_post (.int 1) D (ceK Y i) Y w I) := by
  have h8 := hK.1.1.1
  have h12 := hK.1.1.2.2.1
  obtain ⟨hk, hkb⟩ := hM.1.2.2.2.1.2.2.2.2 i hi
  obtain ⟨hk1, hk2⟩ := hkb hb
  rw [hb] at hk
  have fin : ∀ I1 : Nat → Nat → Int32, (∀ a k, ¬ (45 ≤ a ∧ a ≤ 48) → I1 a k = I a k) → cf_S D (ceK Y i) 45 I1 → cw L w (cd_go 136 21 [.ref 2, .int (nI i)] [] (cd_mm L w I1 J)) (cf_post (.int 1) D (ceK Y i) Y w I) := fun I1 f hQ => by
    refine cw_m (fun _ => cd_s136_21) ?_
    have hin : cd_in (nI i) 2 = true := cd_inN hi (by decide)
    rw [if_pos hin, nI_clamp (by omega), f _ _ (by omega), hk2]
    refine cw_ret ⟨rfl, cf_Mback hM hK f hQ, fun a k h => ?_⟩
    rw [cd_up_k2 (by omega), f _ _ (by omega)]
  refine cw_c (l := [_, _]) rfl rfl ?_
  refine cw_m (fun _ => cd_q136_0) ?_
  rw [if_neg (nI_pos (by omega)), if_pos (show nI i < 2 from nI_lt (b := 2) hi (by decide))]
  refine cw_if (fun _ => ?_) (fun q => absurd rfl q)
  refine cw_if (fun _ => ?_) (fun q => absurd ⟨rfl, cd_inN (n := 2) hi (by decide)⟩ q)
  refine cw_if (fun q => absurd (show I 58 (nI i).toNatClampNeg = 0 from q) (by rw [nI_clamp (by omega), hk]; decide)) (fun _ => ?_)
  have : i = 0 ∨ i = 1 := by omega
  rcases this with rfl | rfl
  · refine cw_if (fun _ => ?_) (fun q => absurd rfl q)
    refine cw_if (fun _ => ?_) (fun q => absurd rfl q)
    refine cw_if (fun _ => ?_) (fun q => absurd ⟨rfl, rfl⟩ q)
    refine cw_if (fun _ => ?_) (fun q => absurd rfl q)
    refine cw_cv (cw_mono (cp_39 (s := 45) (u := 50) (by decide) (by decide) (by decide)) ?_)
    intro v I1 J1 ⟨hv, hJ, f, hc⟩
    have hJ := hJ.symm
    subst hJ
    exact ⟨hv, fin I1 (fun a k h => f a k (by omega)) (hc D _ h8 h12 hk1)⟩
  · refine cw_if (fun _ => ?_) (fun q => absurd rfl q)
    refine cw_if (fun _ => ?_) (fun q => absurd rfl q)
    refine cw_if (fun _ => ?_) (fun q => absurd ⟨rfl, rfl⟩ q)
    refine cw_if (fun _ => ?_) (fun q => absurd rfl q)
    refine cw_cv (cw_mono (cp_39 (s := 45) (u := 54) (by decide) (by decide) (by decide)) ?_)
    intro v I1 J1 ⟨hv, hJ, f, hc⟩
    have hJ := hJ.symm
    subst hJ
    exact ⟨hv, fin I1 (fun a k h => f a k (by omega)) (hc D _ h8 h12 hk1)⟩
theorem cp_131n (hK : ce_ok D S Y) (hM : cf_M D S Y w I J) {x : Int32} (hx : ce_ix x (ceU Y) = false) : cw L w (cd_c 131 [.ref 2, .int x] (cd_mm L w I J)) (cf_post (.int (-1001)) D S Y w I) := by
  have hU := hK.2.2.1.2.2.2.1
  have hU2 := hM.1.2.2.2.1.1.2.2
  refine cw_c (l := [_, _, _, _, _]) rfl rfl ?_
  refine cw_m (fun _ => cd_q131_0) ?_
  refine cw_if (fun _ => cw_ret ⟨rfl, hM, cf_fr.rf⟩) (fun h0 => ?_)
  refine cw_if (fun _ => ?_) (fun q => absurd rfl q)
  refine cw_if (fun q => ?_) (fun _ => cw_ret ⟨rfl, hM, cf_fr.rf⟩)
  replace q : x < I 2 14 := q
  rw [hU2] at q
  rcases cf_ix_f (by omega) hx with h | h
  · exact absurd h h0
  · exact absurd q h
theorem cp_131 (hK : ce_ok D S Y) (hM : cf_M D S Y w I J) {i : Nat} (hi : i < ceU Y) : cw L w (cd_c 131 [.ref 2, .int (nI i)] (cd_mm L w I J)) (cf_post (.int (cd_tf (ce_meA D S (ceW Y i)))) D S Y w I) := by
  have hU := hK.2.2.1.2.2.2.1
  have hU2 := hM.1.2.2.2.1.1.2.2
  have hi4 : i < 4 := by omega
  have okW := hK.2.2.2.2.1 i hi
  have hk9 : ∀ I J, cd_k (cd_mm L w I J) (61 + i) = 9 := fun I J => by
    have : i = 0 ∨ i = 1 ∨ i = 2 ∨ i = 3 := by omega
    rcases this with rfl | rfl | rfl | rfl <;> rfl
  have ha : cd_R (cd_mm L w I J) (cd_R (cd_mm L w I J) 2 10) (nI i).toNatClampNeg = 61 + i := by
    have : i = 0 ∨ i = 1 ∨ i = 2 ∨ i = 3 := by omega
    rcases this with rfl | rfl | rfl | rfl <;> rfl
  have wv : ∀ {I1 J1}, cf_M D S Y w I1 J1 → ∀ k, k < 5 → I1 (61 + i) k = nI (ceW Y i k) := fun M k hk => M.1.2.2.2.1.2.2.1 i hi k hk
  refine cw_c (l := [_, _, _, _, _]) rfl rfl ?_
  refine cw_m (fun _ => cd_q131_0) ?_
  rw [if_neg (nI_pos (by omega)), ha]
  refine cw_if (fun _ => ?_) (fun q => absurd rfl q)
  refine cw_if (fun _ => ?_) (fun q => absurd (show nI i < I 2 14 by rw [hU2]; exact nI_lt hi (by omega)) q)
  refine cw_if (fun _ => ?_) (fun q => absurd rfl q)
  refine cw_if (fun _ => ?_) (fun q => absurd ⟨rfl, cd_inN (n := 4) hi4 (by decide)⟩ q)
  refine cw_if (fun _ => ?_) (fun q => absurd (hk9 I J) q)
  refine cw_if (fun _ => ?_) (fun q => absurd rfl q)
  have e1 : cd_I (cd_mm L w I J) (61 + i) 1 = nI (ceW Y i 1) := wv hM 1 (by decide)
  rw [e1]
  refine cw_cl (cw_mono (cp_95 hK hM okW.2.1 okW.2.2.1) ?_)
  intro v I1 J1 ⟨hv, M1, f1⟩
  refine ⟨_, hv, ?_⟩
  show cw L w (cd_go 131 17 [.ref 2, .int (nI i), .ref (61 + i), .null, .null] [.long _] (cd_mm L w I1 J1)) _
  refine cw_m (fun _ => cd_s131_17) ?_
  rw [cp_93m, cw_bi, cf_bo_gs]
  refine cw_m (fun _ => cd_q131_20) ?_
  have hgs := ce_gs_b (P := ce_rm D S (ceW Y i 1))
  have w0 : cd_I (cd_mm L w I1 J1) (61 + i) 0 = nI (ceW Y i 0) := wv M1 0 (by decide)
  have w2 : cd_I (cd_mm L w I1 J1) (61 + i) 2 = nI (ceW Y i 2) := wv M1 2 (by decide)
  have w3 : cd_I (cd_mm L w I1 J1) (61 + i) 3 = nI (ceW Y i 3) := wv M1 3 (by decide)
  have w4 : cd_I (cd_mm L w I1 J1) (61 + i) 4 = nI (ceW Y i 4) := wv M1 4 (by decide)
  refine cw_if (fun _ => ?_) (fun q => absurd (hk9 I1 J1) q)
  rw [w0]
  have hlt : (nI (ce_gs (ce_rm D S (ceW Y i 1))) < nI (ceW Y i 0)) ↔ ce_gs (ce_rm D S (ceW Y i 1)) < ceW Y i 0 := nI_ltI (by omega) (by omega)
  unfold ce_meA
  refine cw_if (fun q => ?_) (fun q => ?_)
  · have q := hlt.mp q
    rw [decide_eq_false (show ¬ ceW Y i 0 ≤ ce_gs (ce_rm D S (ceW Y i 1)) by omega), Bool.false_and, Bool.false_and, Bool.false_and]
    exact cw_ret ⟨rfl, M1, f1⟩
  have q0 : ¬ ce_gs (ce_rm D S (ceW Y i 1)) < ceW Y i 0 := fun h => q (hlt.mpr h)
  rw [decide_eq_true (show ceW Y i 0 ≤ ce_gs (ce_rm D S (ceW Y i 1)) by omega), Bool.true_and]
  refine cw_if (fun _ => ?_) (fun q => absurd rfl q)
  show cw L w ((cd_ci (cd_c 100 [.ref 2, .long _] (cd_mm L w I1 J1))).bind _) _
  rw [cp_100 hK M1, cw_bi]
  refine cw_m (fun _ => cd_q131_26) ?_
  have hdk : -1 ≤ ce_drk D (ce_rm D S (ceW Y i 1)) ∧ ce_drk D (ce_rm D S (ceW Y i 1)) ≤ 99 := by
    unfold ce_drk ce_dko
    cases ce_gt (ce_rm D S (ceW Y i 1)) with
    | none => exact ⟨by show (-1 : Int) ≤ -1; omega, by show (-1 : Int) ≤ 99; omega⟩
    | some f =>
      have := ce_dk_b (P := ce_rm D S (ceW Y i 1)) hK.1 f 64
      exact ⟨by show (-1 : Int) ≤ ((ce_dk D _ f 64 : Nat) : Int); omega, by show ((ce_dk D _ f 64 : Nat) : Int) ≤ 99; omega⟩
  refine cw_if (fun _ => ?_) (fun q => absurd (hk9 I1 J1) q)
  rw [w2]
  have hlt2 : (nI (ceW Y i 2) < zI (ce_drk D (ce_rm D S (ceW Y i 1)))) ↔ ((ceW Y i 2 : Nat) : Int) < ce_drk D (ce_rm D S (ceW Y i 1)) := by
    rw [← zI_n]
    exact zI_lt (by omega) (by omega) (by omega) (by omega)
  refine cw_if (fun q => ?_) (fun q => ?_)
  · have q := hlt2.mp q
    rw [decide_eq_false (show ¬ ce_drk D (ce_rm D S (ceW Y i 1)) ≤ ((ceW Y i 2 : Nat) : Int) by omega), Bool.false_and, Bool.false_and]
    exact cw_ret ⟨rfl, M1, f1⟩
  have q1 : ¬ ((ceW Y i 2 : Nat) : Int) < ce_drk D (ce_rm D S (ceW Y i 1)) := fun h => q (hlt2.mpr h)
  rw [decide_eq_true (show ce_drk D (ce_rm D S (ceW Y i 1)) ≤ ((ceW Y i 2 : Nat) : Int) by omega), Bool.true_and]
  -- the want stands, or need not
  have last : ∀ t : Int64, cw L w (if nI (ceW Y i 4) = 0 then some (some (.int 1), cd_mm L w I1 J1) else if cd_k (cd_mm L w I1 J1) 2 = 10 then ((cd_ci (cd_c 85 [.ref 2] (cd_mm L w I1 J1))).bind fun q1 => cd_go 131 46 [.ref 2, .int (nI i), .ref (61 + i), .long t, .null] [.int q1.1] q1.2) else none) (cf_post (.int (cd_tf (decide (ceW Y i 4 = 0) || (ce_next D S none 0).isNone))) D S Y w I) := fun t => by
    refine cw_if (fun q => ?_) (fun q => ?_)
    · rw [decide_eq_true ((nI_eq (b := 0) (by omega) (by decide)).mp q), Bool.true_or]
      exact cw_ret ⟨rfl, M1, f1⟩
    · rw [decide_eq_false (fun h => q (by rw [h]; rfl)), Bool.false_or]
      refine cw_if (fun _ => ?_) (fun q => absurd rfl q)
      refine cw_ci (cw_mono (cp_85 hK M1) ?_)
      intro v I2 J2 ⟨hv, M2, f2⟩
      refine ⟨_, hv, ?_⟩
      refine cw_m (fun _ => cd_s131_46) ?_
      cases (ce_next D S none 0).isNone with
      | false => rw [if_pos (show cd_tf false = 0 from rfl)]; exact cw_ret ⟨rfl, M2, f1.tr f2⟩
      | true => rw [if_neg (show ¬ cd_tf true = 0 by decide)]; exact cw_ret ⟨rfl, M2, f1.tr f2⟩
  refine cw_if (fun _ => ?_) (fun q => absurd (hk9 I1 J1) q)
  rw [w3, w4]
  refine cw_if (fun q => ?_) (fun q => ?_)
  · rw [decide_eq_true ((nI_eq (b := 0) (by omega) (by decide)).mp q), Bool.true_or, Bool.true_and]
    refine cw_if (fun _ => ?_) (fun q => absurd (hk9 I1 J1) q)
    exact last _
  · rw [decide_eq_false (fun h => q (by rw [h]; rfl)), Bool.false_or]
    refine cw_if (fun _ => ?_) (fun q => absurd rfl q)
    show cw L w ((cd_cl (cd_c 97 [.ref 2] (cd_mm L w I1 J1))).bind _) _
    rw [cp_97 hK M1, cw_bl]
    refine cw_m (fun _ => cd_s131_37) ?_
    rw [cp_98, cw_bi]
    refine cw_m (fun _ => cd_q131_38) ?_
    have hdr : ce_drs D S (ce_rm D S (ceW Y i 1)) ≤ 64 := by
      unfold ce_drs ce_dro
      cases ce_gt (ce_rm D S (ceW Y i 1)) with
      | none => exact Nat.zero_le _
      | some f => exact fa_cnt_le _ 64
    refine cw_if (fun q => ?_) (fun q => ?_)
    · rw [decide_eq_false (fun h => by
        have := (nI_eq (b := 0) (by omega) (by decide)).mp q
        omega), Bool.false_and]
      exact cw_ret ⟨rfl, M1, f1⟩
    · rw [decide_eq_true (show 0 < ce_drs D S (ce_rm D S (ceW Y i 1)) from Nat.pos_of_ne_zero (fun h => q (by rw [h]; rfl))), Bool.true_and]
      refine cw_if (fun _ => ?_) (fun q => absurd (hk9 I1 J1) q)
      rw [w4]
      exact last _
end CGQ
