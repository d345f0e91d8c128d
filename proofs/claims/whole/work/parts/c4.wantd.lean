/-! ===== the class: want ===== -/
section CWV
variable {L : Nat} {w : Bool} {I : Nat → Nat → Int32} {J : Nat → Nat → Int64} {D : cd_D} {S : cd_S}
variable {Y : ce_Y}
theorem cp_44 {v : Nat} (hv : v = 61 ∨ v = 62 ∨ v = 63 ∨ v = 64) {V : Nat → Nat} (h3 : V 3 ≤ 1) (h4 : V 4 ≤ 1) (hV : ∀ k, k < 5 → I 65 k = nI (V k)) : cw L w (cd_c 44 [.ref v, .ref 65] (cd_mm L w I J)) (fun r I1 J1 => r = none ∧ J1 = J ∧ (∀ a k, a ≠ v → I1 a k = I a k) ∧ ∀ k, k < 5 → I1 v k = nI (V k)) := by
  refine cw_c (l := [.ref v, .ref 65]) (by rcases hv with rfl | rfl | rfl | rfl <;> rfl) (by rcases hv with rfl | rfl | rfl | rfl <;> rfl) ?_
  refine cw_m (fun _ => cd_s44_0 (by omega)) ?_
  have e : ∀ (X : Nat → Nat → Int32) (k : Nat) (y : Int32) (j : Nat), cd_up X v k y 65 j = X 65 j := fun X k y j => cd_up_a (by omega)
  have b : ∀ m, m ≤ 1 → nI m &&& 1 = nI m := fun m hm => by
    have : m = 0 ∨ m = 1 := by omega
    rcases this with rfl | rfl <;> decide
  simp only [e]
  rw [hV 0 (by decide), hV 1 (by decide), hV 2 (by decide), hV 3 (by decide), hV 4 (by decide), if_pos (b _ h3), if_pos (b _ h4)]
  refine cw_ret ⟨rfl, rfl, fun a k h => by rw [cd_up_a h, cd_up_a h, cd_up_a h, cd_up_a h, cd_up_a h], fun k hk => ?_⟩
  have : k = 0 ∨ k = 1 ∨ k = 2 ∨ k = 3 ∨ k = 4 := by omega
  rcases this with rfl | rfl | rfl | rfl | rfl
  · rw [cd_up_k (by decide), cd_up_k (by decide), cd_up_k (by decide), cd_up_k (by decide), cd_up_s]
  · rw [cd_up_k (by decide), cd_up_k (by decide), cd_up_k (by decide), cd_up_s]
  · rw [cd_up_k (by decide), cd_up_k (by decide), cd_up_s]
  · rw [cd_up_k (by decide), cd_up_s]
  · rw [cd_up_s]
theorem cp_45n (hK : ce_ok D S Y) (hM : cf_M D S Y w I J) (h : 60 < ceN Y) : cw L w (cd_c 45 [.ref 2] (cd_mm L w I J)) (cf_post (.int (-1003)) D S Y w I) := by
  have hn := hK.2.2.1.1
  refine cw_c (l := [.ref 2]) rfl rfl ?_
  refine cw_m (fun _ => cd_s45_0) ?_
  rw [hM.1.2.2.2.1.1.1, if_pos (show 60 < nI (ceN Y) from (nI_ltI (a := 60) (by decide) (by omega)).mpr h)]
  exact cw_ret ⟨rfl, hM, cf_fr.rf⟩
theorem cp_45f (hK : ce_ok D S Y) (hM : cf_M D S Y w I J) (h : ceN Y ≤ 60) (hu : ceU Y = 4) : cw L w (cd_c 45 [.ref 2] (cd_mm L w I J)) (cf_post (.int (-1004)) D S Y w I) := by
  refine cw_c (l := [.ref 2]) rfl rfl ?_
  refine cw_m (fun _ => cd_s45_0) ?_
  rw [hM.1.2.2.2.1.1.1, if_neg (show ¬ 60 < nI (ceN Y) from fun q => absurd ((nI_ltI (a := 60) (by decide) (by omega)).mp q) (by omega)), hM.1.2.2.2.1.1.2.2, hu, if_neg (show ¬ nI 4 < 4 by decide)]
  exact cw_ret ⟨rfl, hM, cf_fr.rf⟩
theorem cp_45g {Q : Option Value → (Nat → Nat → Int32) → (Nat → Nat → Int64) → Prop} (h7 : ¬ I 3 7 = 0) (h : Q (some (.int ((-10 : Int32) - I 3 7))) (cd_up (cd_up I 3 1 0) 2 15 (I 3 8)) J) : cw L w (cd_go 45 21 [.ref 2] [] (cd_mm L w I J)) Q := by
  refine cw_m (fun _ => cd_q45_21) ?_
  refine cw_if (fun _ => ?_) (fun q => absurd rfl q)
  refine cw_if (fun _ => ?_) (fun q => absurd rfl q)
  refine cw_if (fun _ => ?_) (fun q => absurd rfl q)
  refine cw_if (fun _ => ?_) (fun q => absurd rfl q)
  refine cw_if (fun _ => ?_) (fun q => absurd rfl q)
  refine cw_if (fun _ => ?_) (fun q => absurd rfl q)
  refine cw_if (fun _ => ?_) (fun q => absurd rfl q)
  refine cw_if (fun q => absurd q h7) (fun _ => ?_)
  refine cw_if (fun _ => ?_) (fun q => absurd rfl q)
  refine cw_if (fun _ => ?_) (fun q => absurd rfl q)
  exact cw_ret h
theorem cp_45o {Q : Option Value → (Nat → Nat → Int32) → (Nat → Nat → Int64) → Prop} (h7 : I 3 7 = 0) {u : Nat} (hu : u < 4) (hU : I 2 14 = nI u) (h : cw L w ((cd_cv (cd_c 44 [.ref (61 + u), .ref 65] (cd_mm L w (cd_up (cd_up I 3 1 0) 2 15 (I 3 8)) J))).bind fun m2 => cd_go 45 48 [.ref 2] [] m2) Q) : cw L w (cd_go 45 21 [.ref 2] [] (cd_mm L w I J)) Q := by
  refine cw_m (fun _ => cd_q45_21) ?_
  refine cw_if (fun _ => ?_) (fun q => absurd rfl q)
  refine cw_if (fun _ => ?_) (fun q => absurd rfl q)
  refine cw_if (fun _ => ?_) (fun q => absurd rfl q)
  refine cw_if (fun _ => ?_) (fun q => absurd rfl q)
  refine cw_if (fun _ => ?_) (fun q => absurd rfl q)
  refine cw_if (fun _ => ?_) (fun q => absurd rfl q)
  refine cw_if (fun _ => ?_) (fun q => absurd rfl q)
  refine cw_if (fun _ => ?_) (fun q => absurd h7 q)
  refine cw_if (fun _ => ?_) (fun q => absurd rfl q)
  refine cw_if (fun _ => ?_) (fun q => absurd rfl q)
  refine cw_if (fun _ => ?_) (fun q => absurd ⟨rfl, (show cd_in (I 2 14) 4 = true by rw [hU]; exact cd_inN hu (by decide))⟩ q)
  refine cw_if (fun _ => ?_) (fun q => absurd rfl q)
  have e : cd_R (cd_mm L w (cd_up (cd_up I 3 1 0) 2 15 (I 3 8)) J) 60 (I 2 14).toNatClampNeg = 61 + u := by
    rw [hU, nI_clamp (by omega)]
    have : u = 0 ∨ u = 1 ∨ u = 2 ∨ u = 3 := by omega
    rcases this with rfl | rfl | rfl | rfl <;> rfl
  show cw L w (if cd_k (cd_mm L w I J) (cd_R (cd_mm L w (cd_up (cd_up I 3 1 0) 2 15 (I 3 8)) J) 60 (I 2 14).toNatClampNeg) = 9 then ((cd_cv (cd_c 44 [.ref (cd_R (cd_mm L w (cd_up (cd_up I 3 1 0) 2 15 (I 3 8)) J) 60 (I 2 14).toNatClampNeg), .ref 65] (cd_mm L w (cd_up (cd_up I 3 1 0) 2 15 (I 3 8)) J))).bind fun m2 => cd_go 45 48 [.ref 2] [] m2) else none) Q
  rw [e, if_pos (by have : u = 0 ∨ u = 1 ∨ u = 2 ∨ u = 3 := by omega
                    rcases this with rfl | rfl | rfl | rfl <;> rfl)]
  exact h
theorem cp_45 (hK : ce_ok D S Y) (hM : cf_M D S Y w I J) (h : ceN Y ≤ 60) (hu : ceU Y < 4) : cw L w (cd_c 45 [.ref 2] (cd_mm L w I J)) (fun v I1 J1 => match ce_want (ceX Y) (ceN Y) with
    | .error (f, p) => cf_post (.int (zI (-10 - (f : Int)))) D S (ceSF Y (p : Int)) w I v I1 J1
    | .ok V => cf_post (.int (nI (ceU Y))) D S (ceSW Y V) w I v I1 J1) := by
  have hn := hK.2.2.1.1
  have hx := hK.2.2.2.1
  have hpw := cf_ple w
  have hM0 := hM
  obtain ⟨⟨a1, a2, a3, ⟨⟨y1, y2, y3⟩, y4, y5, y6, y7⟩, a5⟩, a6⟩ := hM
  have ht : cf_txt (ceX Y) (ceN Y) I := ⟨y1, y4⟩
  refine cw_c (l := [.ref 2]) rfl rfl ?_
  refine cw_m (fun _ => cd_s45_0) ?_
  rw [y1, if_neg (show ¬ 60 < nI (ceN Y) from fun q => absurd ((nI_ltI (a := 60) (by decide) (by omega)).mp q) (by omega)), y3, if_pos (show nI (ceU Y) < 4 from nI_lt (b := 4) hu (by decide))]
  refine cw_cv (cw_mono (cp_17 hn hx ht) ?_)
  intro v I1 J1 ⟨hv, hJ1, f1, K1⟩
  have hJ1 := hJ1.symm
  subst hJ1
  refine ⟨hv, ?_⟩
  refine cw_m (fun _ => cd_s45_16) ?_
  refine cw_cv (cw_mono (cp_43 hn hx K1) ?_)
  intro v I2 J2 ⟨hv, hJ2, f2, hm⟩
  have hJ2 := hJ2.symm
  subst hJ2
  refine ⟨hv, ?_⟩
  have f12 : ∀ a k, ¬ (a = 3 ∧ 2 ≤ k) → a ≠ 65 → I2 a k = I a k := fun a k h1 h2 => (f2 a k h1 h2).trans (f1 a k h1)
  cases hd : ce_want (ceX Y) (ceN Y) with
  | error b =>
    obtain ⟨f, p⟩ := b
    rw [hd] at hm
    replace hm : cf_Fl f p I2 := hm
    refine cp_45g hm.ne ?_
    show cf_post (.int (zI (-10 - (f : Int)))) D S (ceSF Y (p : Int)) w I _ _ _
    rw [hm.1, hm.2.1]
    have r : ∀ a k, ¬ (a = 3 ∧ 1 ≤ k) → ¬ (a = 2 ∧ k = 15) → a ≠ 65 → cd_up (cd_up I2 3 1 0) 2 15 (nI p) a k = I a k := fun a k h1 h2 h3 => by
      rw [cd_up_k2 h2, cd_up_k2 (by omega), f12 a k (by omega) h3]
    refine ⟨?_, ⟨⟨a1.of (fun a k h1 h2 => r a k (by omega) (by omega) (by omega)) (fun k => rfl), a2.of (fun a k h1 h2 => r a k (by omega) (by omega) (by omega)), (r _ _ (by omega) (by omega) (by omega)).trans a3, ⟨⟨?_, ?_, ?_⟩, fun j hj => absurd hj (Nat.not_lt_zero j), fun i hi k hk => ?_, ?_, fun i hi => ⟨?_, fun hb => ⟨?_, ?_⟩⟩⟩, a5.of (fun k _ => r _ _ (by omega) (by omega) (by omega)) (fun k => rfl)⟩, a6.of (fun a k h1 h2 => r a k (by omega) (by omega) (by omega)) (fun k => rfl)⟩, fun a k h => r a k (by omega) (by omega) (by omega)⟩
    · rw [show (-10 : Int32) = zI (-10) from rfl, cw_znsub]
    · rw [cd_up_a (by decide), cd_up_s]; rfl
    · rw [cd_up_s]; exact (zI_n p).symm
    · exact (r _ _ (by omega) (by omega) (by omega)).trans y3
    · replace hi : i < ceU Y := hi
      exact (r _ _ (by omega) (by omega) (by omega)).trans (y5 i hi k hk)
    · exact ⟨(r _ _ (by omega) (by omega) (by omega)).trans y6.1, fun j hj => ⟨(r _ _ (by omega) (by omega) (by omega)).trans (y6.2 j hj).1, (r _ _ (by omega) (by omega) (by omega)).trans (y6.2 j hj).2⟩⟩
    · exact (r _ _ (by omega) (by omega) (by omega)).trans (y7 i hi).1
    · exact ((y7 i hi).2 hb).1.of (fun a k h1 h2 => r a k (by omega) (by omega) (by omega))
    · exact (r _ _ (by omega) (by omega) (by omega)).trans ((y7 i hi).2 hb).2
  | ok V =>
    rw [hd] at hm
    obtain ⟨⟨m7, m8⟩, mV⟩ : (I2 3 7 = nI 0 ∧ I2 3 8 = zI (-1)) ∧ ∀ k, k < 5 → I2 65 k = nI (V k) := hm
    have hV := ce_want_ok.1 hd
    refine cp_45o m7 hu ((f12 _ _ (by omega) (by omega)).trans y3) ?_
    rw [m8]
    have r : ∀ a k, ¬ (a = 3 ∧ 1 ≤ k) → ¬ (a = 2 ∧ k = 15) → cd_up (cd_up I2 3 1 0) 2 15 (zI (-1)) a k = I2 a k := fun a k h1 h2 => by
      rw [cd_up_k2 h2, cd_up_k2 (by omega)]
    have r31 : cd_up (cd_up I2 3 1 0) 2 15 (zI (-1)) 3 1 = nI 0 := by rw [cd_up_a (by decide), cd_up_s]; rfl
    have r215 : cd_up (cd_up I2 3 1 0) 2 15 (zI (-1)) 2 15 = zI (-1) := cd_up_s
    generalize cd_up (cd_up I2 3 1 0) 2 15 (zI (-1)) = I3 at *
    refine cw_cv (cw_mono (cp_44 (v := 61 + ceU Y) (by omega) hV.2.2.2.2.1 hV.2.2.2.2.2 (fun k hk => (r _ _ (by omega) (by omega)).trans (mV k hk))) ?_)
    intro v I4 J4 ⟨hv, hJ4, f4, g4⟩
    have hJ4 := hJ4.symm
    subst hJ4
    refine ⟨hv, ?_⟩
    refine cw_m (fun _ => cd_s45_48) ?_
    have h14 : I4 2 14 = nI (ceU Y) := by rw [f4 _ _ (by omega), r _ _ (by omega) (by omega), f12 _ _ (by omega) (by omega)]; exact y3
    rw [cd_up_s, h14, nI_1]
    have g : ∀ a k, ¬ (a = 3 ∧ 1 ≤ k) → ¬ (a = 2 ∧ (k = 14 ∨ k = 15)) → a ≠ 61 + ceU Y → a ≠ 65 → cd_up I4 2 14 (nI (ceU Y + 1)) a k = I a k := fun a k h1 h2 h3 h4 => by
      rw [cd_up_k2 (by omega), f4 a k h3, r a k h1 (by omega), f12 a k (by omega) h4]
    refine cw_ret ?_
    show cf_post (.int (nI (ceU Y))) D S (ceSW Y V) w I _ _ _
    refine ⟨?_, ⟨⟨a1.of (fun a k h1 h2 => g a k (by omega) (by omega) (by omega) (by omega)) (fun k => rfl), a2.of (fun a k h1 h2 => g a k (by omega) (by omega) (by omega) (by omega)), (g _ _ (by omega) (by omega) (by omega) (by omega)).trans a3, ⟨⟨?_, ?_, cd_up_s⟩, fun j hj => absurd hj (Nat.not_lt_zero j), fun i hi k hk => ?_, ?_, fun i hi => ⟨?_, fun hb => ⟨?_, ?_⟩⟩⟩, a5.of (fun k _ => g _ _ (by omega) (by omega) (by omega) (by omega)) (fun k => rfl)⟩, a6.of (fun a k h1 h2 => g a k (by omega) (by omega) (by omega) (by omega)) (fun k => rfl)⟩, fun a k h => g a k (by omega) (by omega) (by omega) (by omega)⟩
    · rw [show (1 : Int32) = nI 1 from rfl, pk_sub (Nat.le_add_left 1 _), Nat.add_sub_cancel]
    · rw [cd_up_a (by decide), f4 _ _ (by omega)]
      exact r31
    · rw [cd_up_k (by decide), f4 _ _ (by omega)]
      exact r215
    · replace hi : i < ceU Y + 1 := hi
      show cd_up I4 2 14 (nI (ceU Y + 1)) (61 + i) k = nI (if i = ceU Y then V k else ceW Y i k)
      by_cases hi2 : i = ceU Y
      · rw [if_pos hi2, hi2, cd_up_a (by omega)]
        exact g4 k hk
      · rw [if_neg hi2, g _ _ (by omega) (by omega) (by omega) (by omega)]
        exact y5 i (by omega) k hk
    · exact ⟨(g _ _ (by omega) (by omega) (by omega) (by omega)).trans y6.1, fun j hj => ⟨(g _ _ (by omega) (by omega) (by omega) (by omega)).trans (y6.2 j hj).1, (g _ _ (by omega) (by omega) (by omega) (by omega)).trans (y6.2 j hj).2⟩⟩
    · exact (g _ _ (by omega) (by omega) (by omega) (by omega)).trans (y7 i hi).1
    · exact ((y7 i hi).2 hb).1.of (fun a k h1 h2 => g a k (by omega) (by omega) (by omega) (by omega))
    · exact (g _ _ (by omega) (by omega) (by omega) (by omega)).trans ((y7 i hi).2 hb).2
end CWV
