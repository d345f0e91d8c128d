/-! ===== the reference: den ===== -/
theorem ce_sk_sk {x : Nat → Nat} {n q : Nat} (hq : q ≤ n) : ce_sk x n (ce_sk x n q) = ce_sk x n q := by
  obtain ⟨b1, b2, b3, -⟩ := ce_end_b (p := fun k => !decide (x k = 32)) hq
  replace b2 : ce_sk x n q ≤ n := b2
  replace b3 : ce_sk x n q < n → (fun k => !decide (x k = 32)) (ce_sk x n q) = true := b3
  by_cases h : ce_sk x n q < n
  · have := b3 h
    generalize ce_sk x n q = s at *
    unfold ce_sk
    rw [ce_end_st h, if_pos this]
  · rw [show ce_sk x n q = n by omega]
    exact ce_end_n _ _
theorem ce_pc_sk {x : Nat → Nat} {n q : Nat} {D : cd_D} {S : cd_S} (hq : q ≤ n) : ce_pc x n (ce_sk x n q) D S = ce_pc x n q D S := by
  unfold ce_pc
  rw [ce_sk_sk hq]
/-- what a text tells -/
def ce_den (x : Nat → Nat) (n r : Nat) : Except (Nat × Nat) (cd_D × cd_S) := ce_pD x n (n + 1) 0 ce_D0 (ce_S0 r)
/-- the rest, the text read -/
def ceSF (Y : ce_Y) (p : Int) : ce_Y := (Y.1, 0, p, Y.2.2.2)
/-- the rest, a den kept -/
def ceSD (Y : ce_Y) : ce_Y := (Y.1, 0, -1, Y.2.2.2.1, Y.2.2.2.2.1, [], (fun _ => false), Y.2.2.2.2.2.2.2)
section CFN
variable {L : Nat} {w : Bool} {I : Nat → Nat → Int32} {J : Nat → Nat → Int64} {D : cd_D} {S : cd_S}
variable {x : Nat → Nat} {n q : Nat} {Y : ce_Y}
def ce_q170 (I0 : Nat → Nat → Int32) (J0 : Nat → Nat → Int64) (r : Except (Nat × Nat) (cd_D × cd_S)) : Option Value → (Nat → Nat → Int32) → (Nat → Nat → Int64) → Prop := fun v I1 J1 => (∀ a k, a ≠ 100 → J1 a k = J0 a k) ∧ match r with
  | .error (f, p) => v = some (.int (zI (-10 - (f : Int)))) ∧ (∀ a j, ¬ ce_xP a j → ¬ (a = 100 ∧ j = 18) → I1 a j = I0 a j) ∧ I1 100 18 = nI 0 ∧ I1 100 19 = nI p
  | .ok (D1, S1) => v = some (.int (nI (D1 0 2))) ∧ (∀ a j, ¬ ce_xP a j → ¬ ce_x169 a j → ¬ (a = 100 ∧ j = 18) → I1 a j = I0 a j) ∧ I1 100 18 = nI 0 ∧ I1 100 19 = I0 100 19 ∧ cd_refD D1 I1 ∧ cd_refS D1 S1 I1 ∧ I1 100 40 = nI 0 ∧ I1 126 0 = nI 0 ∧ I1 126 1 = nI 0
theorem cp_170l (hn : n ≤ 500) (hx : ∀ k, x k < 256) {I0 : Nat → Nat → Int32} {J0 : Nat → Nat → Int64} : ∀ (f q : Nat) (D : cd_D) (S : cd_S) (I : Nat → Nat → Int32) (J : Nat → Nat → Int64), q ≤ n → n < f + q → ce_okP D S → ce_P D S I → I 100 20 = nI q → ce_txt x n I → (∀ a j, ¬ ce_xP a j → I a j = I0 a j) → (∀ a k, a ≠ 100 → J a k = J0 a k) → I 100 19 = I0 100 19 → cw L w (cd_go 170 29 [.ref 100, .int (nI 0)] [] (cd_mm L w I J)) (ce_q170 I0 J0 (ce_pD x n f q D S)) := by
  intro f
  induction f with
  | zero => intro q D S I J hq hf; omega
  | succ f ih =>
    intro q D S I J hq hf hO hP h20 ht fI fJ h19
    have hsk := ce_end_b (p := fun k => !decide (x k = 32)) hq
    replace hsk : q ≤ ce_sk x n q ∧ ce_sk x n q ≤ n := ⟨hsk.1, hsk.2.1⟩
    refine cw_m (fun _ => cd_s170_29) ?_
    rw [if_pos (show nI 0 = 0 from rfl)]
    refine cw_ci (cw_mono (cp_152 hn hx ht hq h20) ?_)
    intro v I1 J1 ⟨hv, hJ, f1, g20⟩
    subst hJ
    refine ⟨_, hv, ?_⟩
    have fI1 : ∀ a j, ¬ ce_xP a j → I1 a j = I0 a j := fun a j h => (f1 a j (by unfold ce_xP at h; omega)).trans (fI a j h)
    have hP1 : ce_P D S I1 := hP.of (fun a j h => f1 a j (by omega))
    have ht1 : ce_txt x n I1 := ht.of (fun a j h => f1 a j (by omega))
    have h191 : I1 100 19 = I0 100 19 := (f1 _ _ (by omega)).trans h19
    refine cw_m (fun _ => cd_s170_33) ?_
    by_cases hs : ce_sk x n q < n
    · have hxs := hx (ce_sk x n q)
      rw [if_pos hs, if_neg (nI_pos (by omega))]
      have e : ce_pD x n (f + 1) q D S = ce_bd (ce_pc x n q D S) fun a => ce_pD x n f a.1 a.2.1 a.2.2 := if_pos hs
      rw [e]
      have hpc := cp_168 (L := L) (w := w) (J := J1) hn hx ht1 hsk.2 g20 hP1 hO
      rw [ce_pc_sk hq] at hpc
      refine cw_ci (cw_mono hpc ?_)
      intro v I2 J2 ⟨hJ2, f2, hm⟩
      cases hr : ce_pc x n q D S with
      | error a =>
        obtain ⟨g, p⟩ := a
        rw [hr] at hm
        obtain ⟨hv, g19⟩ := hm
        have hg := (ce_pc_e hO hq hr).1
        refine ⟨_, hv, ?_⟩
        refine cw_m (fun _ => cd_s170_36) ?_
        refine cw_m (fun _ => cd_s170_29) ?_
        rw [if_neg (show ¬ nI g = 0 from nI_ne0 (by omega) (by omega)), if_pos (show (0 : Int32) < nI g from nI_lt (a := 0) (by omega) (by omega)), show (-10 : Int32) = zI (-10) from rfl, cw_znsub]
        refine cw_ret ⟨fun a k h => (hJ2 a k h).trans (fJ a k h), rfl, fun a j h1 h2 => ?_, cd_up_s, (cd_up_k (by decide)).trans g19⟩
        rw [cd_up_k2 h2, f2 a j h1]
        exact fI1 a j h1
      | ok a =>
        obtain ⟨z, D1, S1⟩ := a
        rw [hr] at hm
        obtain ⟨hv, g20, gP, g19⟩ := hm
        obtain ⟨o1, o2, o3, o4⟩ := ce_pc_ok hO hq hr
        refine ⟨_, hv, ?_⟩
        refine cw_m (fun _ => cd_s170_36) ?_
        exact ih z D1 S1 I2 J2 o2 (by omega) o3 gP g20 (ht1.of (fun a j h => f2 a j (by unfold ce_xP; omega))) (fun a j h => (f2 a j h).trans (fI1 a j h)) (fun a k h => (hJ2 a k h).trans (fJ a k h)) (g19.trans h191)
    · rw [if_neg hs, if_pos (show (-1 : Int32) < 0 by decide), if_neg (show ¬ (0 : Int32) < nI 0 by decide)]
      have e : ce_pD x n (f + 1) q D S = .ok (D, S) := if_neg hs
      rw [e]
      have hP2 : ce_P D S (cd_up I1 100 18 0) := hP1.of (fun a j h => cd_up_k2 (by omega))
      refine cw_cv (cw_mono (cp_169 hP2 hO) ?_)
      intro v I2 J2 ⟨hv, hJ2, f2, rD, rS, r40, r0, r1⟩
      subst hJ2
      refine ⟨hv, ?_⟩
      refine cw_m (fun _ => cd_s170_49) ?_
      rw [rD.1.2.2.1]
      refine cw_ret ⟨fJ, rfl, fun a j h1 h2 h3 => ?_, ?_, ?_, rD, rS, r40, r0, r1⟩
      · rw [f2 a j h2, cd_up_k2 h3]
        exact fI1 a j h1
      · rw [f2 _ _ (by unfold ce_x169; omega)]
        exact cd_up_s
      · rw [f2 _ _ (by unfold ce_x169; omega), cd_up_k (by decide)]
        exact h191
theorem cp_170 (hK : ce_ok D S Y) (hM : ce_M D S Y I) : cw L w (cd_c 170 [.ref 100] (cd_mm L w I J)) (fun v I1 J1 => match ce_den (ceX Y) (ceN Y) (S 0 3) with
    | .error (f, p) => ce_post (.int (zI (-10 - (f : Int)))) D S (ceSF Y (p : Int)) I J v I1 J1
    | .ok (D1, S1) => ce_post (.int (nI (D1 0 2))) D1 S1 (ceSD Y) I J v I1 J1) := by
  have hn := hK.2.2.1.1
  have hx := hK.2.2.2.1
  have hr := hK.2.1.2.2.2.2
  have hO := ce_okP0 hr
  have hall := ce_pD_ok (x := ceX Y) (ceN Y + 1) hO (Nat.zero_le (ceN Y))
  obtain ⟨m1, m2, m3, m4, ⟨y1, y2, y3, y4⟩, yX, yW, yE, yB⟩ := hM
  have h8 := hK.1.1.1
  have h12 := hK.1.1.2.2.1
  refine cw_c (l := [_, _]) rfl rfl ?_
  refine cw_m (fun _ => cd_s170_0) ?_
  generalize hI0 : cd_up (cd_up (cd_up (cd_up (cd_up (cd_up (cd_up (cd_up (cd_up I 100 19 (-1)) 100 20 0) 100 25 0) 100 27 0) 100 29 0) 100 31 60) 100 32 10) 100 33 0) 100 34 0 = I0
  have g : ∀ a j, ¬ (a = 100 ∧ (j = 19 ∨ j = 20 ∨ j = 25 ∨ j = 27 ∨ j = 29 ∨ j = 31 ∨ j = 32 ∨ j = 33 ∨ j = 34)) → I0 a j = I a j := fun a j h => by
    rw [← hI0, cd_up_k2 (by omega), cd_up_k2 (by omega), cd_up_k2 (by omega), cd_up_k2 (by omega), cd_up_k2 (by omega), cd_up_k2 (by omega), cd_up_k2 (by omega), cd_up_k2 (by omega), cd_up_k2 (by omega)]
  have g19 : I0 100 19 = -1 := by rw [← hI0]; rfl
  have g20 : I0 100 20 = nI 0 := by rw [← hI0]; rfl
  have hP : ce_P ce_D0 (ce_S0 (S 0 3)) I0 := by
    refine ⟨⟨?_, ?_, ?_, ?_, ?_, ?_, ?_⟩, fun t ht => absurd ht (Nat.not_lt_zero t), fun t ht => absurd ht (Nat.not_lt_zero t), fun t ht => absurd ht (Nat.not_lt_zero t)⟩ <;> (rw [← hI0]; rfl)
  clear hI0
  have ht : ce_txt (ceX Y) (ceN Y) I0 := ⟨(g _ _ (by omega)).trans y1, fun j hj => (g _ _ (by omega)).trans (yX j hj)⟩
  refine cw_mono (cp_170l (I0 := I0) (J0 := J) hn hx (ceN Y + 1) 0 ce_D0 (ce_S0 (S 0 3)) I0 J (Nat.zero_le _) (by omega) hO hP g20 ht (fun _ _ _ => rfl) (fun _ _ _ => rfl) rfl) ?_
  intro v I1 J1 ⟨hJ, hm⟩
  have hfJ : ∀ a k, a < 100 → J1 a k = J a k := fun a k h => hJ a k (by omega)
  unfold ce_den
  cases hd : ce_pD (ceX Y) (ceN Y) (ceN Y + 1) 0 ce_D0 (ce_S0 (S 0 3)) with
  | error a =>
    obtain ⟨f, p⟩ := a
    rw [hd] at hm
    obtain ⟨hv, f1, g18, g191⟩ := hm
    have f2 : ∀ a j, ¬ ce_xP a j → ¬ (a = 100 ∧ j = 18) → I1 a j = I a j := fun a j h1 h2 => (f1 a j h1 h2).trans (g a j (by unfold ce_xP at h1; omega))
    refine ⟨hv, ⟨m1.of (fun a k h1 h2 => f2 a k (by unfold ce_xP; omega) (by omega)), m2.of (fun a k h => f2 a k (by unfold ce_xP; omega) (by omega)), ?_, ?_, ⟨g18, g191.trans (zI_n p).symm, ?_, ?_⟩, fun j hj => absurd hj (Nat.not_lt_zero j), fun i hi k hk => ?_, fun j hj => ?_, fun i hi => ⟨?_, fun hb => ((yB i hi).2 hb).of (fun k _ => f2 _ _ (by unfold ce_xP; omega) (by omega)) h8 h12⟩⟩, fun a k h => f2 a k (by unfold ce_xP; omega) (by omega), hfJ⟩
    · rw [f2 _ _ (by unfold ce_xP; omega) (by omega)]; exact m3
    · rw [f2 _ _ (by unfold ce_xP; omega) (by omega)]; exact m4
    · rw [f2 _ _ (by unfold ce_xP; omega) (by omega)]; exact y3
    · rw [f2 _ _ (by unfold ce_xP; omega) (by omega)]; exact y4
    · rw [f2 _ _ (by unfold ce_xP; omega) (by omega)]; exact yW i hi k hk
    · rw [f2 _ _ (by unfold ce_xP; omega) (by omega), f2 _ _ (by unfold ce_xP; omega) (by omega)]; exact yE j hj
    · rw [f2 _ _ (by unfold ce_xP; omega) (by omega)]; exact (yB i hi).1
  | ok a =>
    obtain ⟨D1, S1⟩ := a
    rw [hd] at hm
    obtain ⟨hv, f1, g18, g191, rD, rS, r40, r0, r1⟩ := hm
    have hs3 : S1 0 3 = S 0 3 := (hall.1 hd).2
    have f2 : ∀ a j, ¬ ce_xP a j → ¬ ce_x169 a j → ¬ (a = 100 ∧ j = 18) → I1 a j = I a j := fun a j h1 h3 h2 => (f1 a j h1 h3 h2).trans (g a j (by unfold ce_xP at h1; omega))
    refine ⟨hv, ⟨rD, rS, ?_, ?_, ⟨g18, g191.trans g19, ?_, r40⟩, fun j hj => absurd hj (Nat.not_lt_zero j), fun i hi k hk => ?_, fun j hj => absurd hj (Nat.not_lt_zero j), fun i hi => ⟨?_, fun hb => by cases hb⟩⟩, fun a k h => f2 a k (by unfold ce_xP; omega) (by unfold ce_x169; omega) (by omega), hfJ⟩
    · rw [f2 _ _ (by unfold ce_xP; omega) (by unfold ce_x169; omega) (by omega)]; exact m3
    · rw [f2 _ _ (by unfold ce_xP; omega) (by unfold ce_x169; omega) (by omega), hs3]; exact m4
    · rw [f2 _ _ (by unfold ce_xP; omega) (by unfold ce_x169; omega) (by omega)]; exact y3
    · rw [f2 _ _ (by unfold ce_xP; omega) (by unfold ce_x169; omega) (by omega)]; exact yW i hi k hk
    · have : i = 0 ∨ i = 1 := by omega
      rcases this with rfl | rfl
      · exact r0
      · exact r1
/-- a den's text read: all stays in order -/
theorem ce_den_ok (hK : ce_ok D S Y) : (∀ {f p}, ce_den (ceX Y) (ceN Y) (S 0 3) = .error (f, p) → ce_ok D S (ceSF Y (p : Int)) ∧ 1 ≤ f ∧ f ≤ 5) ∧ ∀ {D1 S1}, ce_den (ceX Y) (ceN Y) (S 0 3) = .ok (D1, S1) → ce_ok D1 S1 (ceSD Y) := by
  have hO := ce_okP0 hK.2.1.2.2.2.2
  have hall := ce_pD_ok (x := ceX Y) (ceN Y + 1) hO (Nat.zero_le (ceN Y))
  obtain ⟨hD, hT, ⟨y1, y2, y3, y4, y5⟩, yX, yW, yE, yB⟩ := hK
  refine ⟨fun {f p} h => ?_, fun h => ?_⟩
  · obtain ⟨h1, h2⟩ := hall.2 h
    exact ⟨⟨hD, hT, ⟨Nat.zero_le _, by show (-1 : Int) ≤ (p : Int); omega, by show (p : Int) ≤ 500; omega, y4, y5⟩, yX, yW, yE, yB⟩, h1⟩
  · obtain ⟨⟨h1, h2, -⟩, h3⟩ := hall.1 h
    exact ⟨h1, h2, ⟨Nat.zero_le _, by show (-1 : Int) ≤ -1; decide, by show (-1 : Int) ≤ 500; decide, y4, Nat.zero_le _⟩, yX, yW, fun j hj => absurd hj (Nat.not_lt_zero j), fun i _ hb => by cases hb⟩
end CFN
