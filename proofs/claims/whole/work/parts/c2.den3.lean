section CDP
variable {L : Nat} {w : Bool} {I : Nat → Nat → Int32} {J : Nat → Nat → Int64} {D : cd_D} {S : cd_S}
variable {Y : ce_Y}
/-! ===== the class: den ===== -/
theorem cp_42 (hK : ce_ok D S Y) (hM : cf_M D S Y w I J) : ∃ w2, cw L w2 (cd_c 42 [.ref 2] (cd_mm L w I J)) (fun v I1 J1 => match ce_den (ceX Y) (ceN Y) (S 0 3) with
    | .error (f, p) => cf_post (.int (zI (-10 - (f : Int)))) D S (ceSF Y (p : Int)) w2 I v I1 J1
    | .ok (D1, S1) => cf_post (.int (nI (D1 0 2))) D1 S1 (ceSD Y) w2 I v I1 J1) := by
  have hn := hK.2.2.1.1
  have hx := hK.2.2.2.1
  have hr := hK.2.1.2.2.2.2
  have hU := hK.2.2.1.2.2.2.1
  have hall := ce_pD_ok (x := ceX Y) (ceN Y + 1) (ce_okP0 hr) (Nat.zero_le (ceN Y))
  obtain ⟨⟨a1, a2, a3, ⟨⟨y1, y2, y3⟩, y4, y5, y6, y7⟩, a5⟩, a6⟩ := hM
  have ht : cf_txt (ceX Y) (ceN Y) I := ⟨y1, y4⟩
  have hpp : cd_ple w = 66 ∧ cd_plr w = 83 ∨ cd_ple w = 83 ∧ cd_plr w = 66 := by cases w; exact Or.inl ⟨rfl, rfl⟩; exact Or.inr ⟨rfl, rfl⟩
  have hp2 : cd_plr w = 66 ∨ cd_plr w = 83 := by omega
  have ep : cd_ple (!w) = cd_plr w := by cases w <;> rfl
  -- as far as the text read
  have pre : ∀ {w2 : Bool} {Q : Option Value → (Nat → Nat → Int32) → (Nat → Nat → Int64) → Prop}, (∀ I2 J2, cf_fp (cd_plr w) I I2 → (∀ a j, a ≠ cd_plr w + 10 → J2 a j = J a j) → (match ce_den (ceX Y) (ceN Y) (S 0 3) with
      | .ok (D1, S1) => (I2 3 7 = nI 0 ∧ I2 3 8 = zI (-1)) ∧ cf_PB D1 S1 (cd_plr w) I2 J2
      | .error (f, q) => cf_Fl f q I2) → cw L w2 (cd_go 42 8 [.ref 2, .null, .null] [] (cd_mm L w I2 J2)) Q) → cw L w2 (cd_c 42 [.ref 2] (cd_mm L w I J)) Q := by
    intro w2 Q h
    refine cw_c (l := [.ref 2, .null, .null]) rfl rfl ?_
    refine cw_m (fun _ => cd_s42_0) ?_
    refine cw_cvw (cw_mono (cp_17 hn hx ht) ?_)
    intro v I1 J1 ⟨hv, hJ1, f1, K1⟩
    have hJ1 := hJ1.symm
    subst hJ1
    refine ⟨hv, ?_⟩
    refine cw_m (fun _ => cd_s42_3) ?_
    refine cw_cvw (cw_mono (cp_38 hn hx hp2 K1 hr) ?_)
    intro v I2 J2 ⟨hv, f2, g2, hm⟩
    exact ⟨hv, h I2 J2 (fun a k h1 h2 => (f2 a k h1 h2).trans (f1 a k h1)) g2 hm⟩
  cases hd : ce_den (ceX Y) (ceN Y) (S 0 3) with
  | error b =>
    obtain ⟨f, p⟩ := b
    refine ⟨w, pre ?_⟩
    intro I2 J2 f2 g2 hm
    rw [hd] at hm
    replace hm : cf_Fl f p I2 := hm
    refine cp_42f hm.ne ?_
    show cf_post (.int (zI (-10 - (f : Int)))) D S (ceSF Y (p : Int)) w I _ _ _
    rw [hm.1, hm.2.1]
    have r : ∀ a k, ¬ (a = 3 ∧ 1 ≤ k) → ¬ (a = 2 ∧ k = 15) → ¬ (cd_plr w ≤ a ∧ a ≤ cd_plr w + 16) → cd_up (cd_up I2 3 1 0) 2 15 (nI p) a k = I a k := fun a k h1 h2 h3 => by
      rw [cd_up_k2 h2, cd_up_k2 (by omega), f2 a k (by omega) h3]
    refine ⟨?_, ⟨⟨a1.of (fun a k h1 h2 => r a k (by omega) (by omega) (by omega)) (fun k => g2 _ _ (by omega)), a2.of (fun a k h1 h2 => r a k (by omega) (by omega) (by omega)), (r _ _ (by omega) (by omega) (by omega)).trans a3, ⟨⟨?_, ?_, ?_⟩, fun j hj => absurd hj (Nat.not_lt_zero j), fun i hi k hk => ?_, ?_, fun i hi => ⟨?_, fun hb => ⟨?_, ?_⟩⟩⟩, a5.of (fun k _ => r _ _ (by omega) (by omega) (by omega)) (fun k => g2 _ _ (by omega))⟩, a6.of (fun a k h1 h2 => r a k (by omega) (by omega) (by omega)) (fun k => g2 _ _ (by omega))⟩, fun a k h => r a k (by omega) (by omega) (by omega)⟩
    · rw [show (-10 : Int32) = zI (-10) from rfl, cw_znsub]
    · rw [cd_up_a (by decide), cd_up_s]; rfl
    · rw [cd_up_s]; exact (zI_n p).symm
    · exact (r _ _ (by omega) (by omega) (by omega)).trans y3
    · replace hi : i < ceU Y := hi
      exact (r _ _ (by omega) (by omega) (by omega)).trans (y5 i hi k hk)
    · exact ⟨(r _ _ (by omega) (by omega) (by omega)).trans y6.1, fun j hj => ⟨(r _ _ (by omega) (by omega) (by omega)).trans (y6.2 j hj).1, (r _ _ (by omega) (by omega) (by omega)).trans (y6.2 j hj).2⟩⟩
    · exact (r _ _ (by omega) (by omega) (by omega)).trans (y7 i hi).1
    · exact ((y7 i hi).2 hb).1.of (fun a k h1 h2 => r a k (by omega) (by omega) (by omega))
    · exact (r _ _ (by omega) (by omega) (by omega)).trans ((y7 i hi).2 hb).2
  | ok b =>
    obtain ⟨D1, S1⟩ := b
    obtain ⟨hO1, hs3⟩ := hall.1 (show ce_pD (ceX Y) (ceN Y) (ceN Y + 1) 0 ce_D0 (ce_S0 (S 0 3)) = .ok (D1, S1) from hd)
    replace hs3 : S1 0 3 = S 0 3 := hs3
    have h8 := hO1.1.1.1
    have h12 := hO1.1.1.2.2.1
    refine ⟨!w, pre ?_⟩
    intro I2 J2 f2 g2 hm
    rw [hd] at hm
    obtain ⟨⟨m7, m8⟩, mP, mS, -, -⟩ : (I2 3 7 = nI 0 ∧ I2 3 8 = zI (-1)) ∧ cf_PB D1 S1 (cd_plr w) I2 J2 := hm
    refine cp_42o m7 ?_
    rw [m8]
    have r : ∀ a k, ¬ (a = 3 ∧ 1 ≤ k) → ¬ (a = 2 ∧ k = 15) → cd_up (cd_up I2 3 1 0) 2 15 (zI (-1)) a k = I2 a k := fun a k h1 h2 => by
      rw [cd_up_k2 h2, cd_up_k2 (by omega)]
    have r31 : cd_up (cd_up I2 3 1 0) 2 15 (zI (-1)) 3 1 = nI 0 := by rw [cd_up_a (by decide), cd_up_s]; rfl
    have r215 : cd_up (cd_up I2 3 1 0) 2 15 (zI (-1)) 2 15 = zI (-1) := cd_up_s
    generalize cd_up (cd_up I2 3 1 0) 2 15 (zI (-1)) = I3 at *
    refine cw_cv (cw_mono (cp_39 (s := 45) (u := cd_plr w + 13) (by decide) (by omega) (by omega)) ?_)
    intro v I4 J4 ⟨hv, hJ4, f4, hc⟩
    have hJ4 := hJ4.symm
    subst hJ4
    refine ⟨hv, ?_⟩
    have hc1 := hc D1 S1 h8 h12 (mS.of (fun a k h1 h2 => r a k (by omega) (by omega)))
    refine cw_mono cp_42t ?_
    intro v I5 J5 ⟨hJ5, hv5, t42, t58, t581, t8, t21, f5⟩
    have hJ5 := hJ5.symm
    subst hJ5
    have g : ∀ a k, ¬ (a = 3 ∧ 1 ≤ k) → ¬ (a = 2 ∧ k = 15) → ¬ (45 ≤ a ∧ a ≤ 48) → a ≠ 8 → ¬ (a = 42 ∧ k = 2) → a ≠ 58 → ¬ (a = 21 ∧ k = 8) → I5 a k = I2 a k := fun a k h1 h2 h3 h4 h5 h6 h7 => by
      rw [f5 a k h4 h5 h6 h7, f4 a k h3, r a k h1 h2]
    show cf_post (.int (nI (D1 0 2))) D1 S1 (ceSD Y) (!w) I _ _ _
    refine ⟨?_, ⟨⟨?_, hc1.of (fun a k h1 h2 => f5 a k (by omega) (by omega) (by omega) (by omega)), ?_, ⟨⟨?_, ?_, ?_⟩, fun j hj => absurd hj (Nat.not_lt_zero j), fun i hi k hk => ?_, ⟨?_, fun j hj => absurd hj (Nat.not_lt_zero j)⟩, fun i hi => ⟨?_, fun hb => by cases hb⟩⟩, Or.inl t21⟩, fun k hk => Or.inl (t8 k hk)⟩, fun a k h => ?_⟩
    · rw [hv5, ep, f4 _ _ (by omega), r _ _ (by omega) (by omega), mP.1.2.2.1]
    · rw [ep]
      exact mP.of (fun a k h1 h2 => g a k (by omega) (by omega) (by omega) (by omega) (by omega) (by omega) (by omega)) (fun _ => rfl)
    · rw [g _ _ (by omega) (by omega) (by omega) (by omega) (by omega) (by omega) (by omega), f2 _ _ (by omega) (by omega), a3, hs3]
    · rw [f5 _ _ (by decide) (by decide) (by decide) (by decide), f4 _ _ (by omega)]
      exact r31
    · rw [f5 _ _ (by decide) (by decide) (by decide) (by decide), f4 _ _ (by omega)]
      exact r215
    · rw [g _ _ (by omega) (by omega) (by omega) (by omega) (by omega) (by omega) (by omega), f2 _ _ (by omega) (by omega)]
      exact y3
    · replace hi : i < ceU Y := hi
      rw [g _ _ (by omega) (by omega) (by omega) (by omega) (by omega) (by omega) (by omega), f2 _ _ (by omega) (by omega)]
      exact y5 i hi k hk
    · exact t42
    · have : i = 0 ∨ i = 1 := by omega
      rcases this with rfl | rfl
      · exact t58
      · exact t581
    · rw [g _ _ (by omega) (by omega) (by omega) (by omega) (by omega) (by omega) (by omega), f2 _ _ (by omega) (by omega)]
end CDP
