/-! ===== the reference: cloths, lights, bars ===== -/
section CFG
variable {L : Nat} {w : Bool} {I : Nat → Nat → Int32} {J : Nat → Nat → Int64} {D : cd_D} {S : cd_S}
variable {x : Nat → Nat} {n q : Nat}
theorem cp_157k (hn : n ≤ 500) (hx : ∀ k, x k < 256) (ht : ce_txt x n I) (hq : q ≤ n) (h20 : I 100 20 = nI q) (lo hi : Nat) (hlo : lo < 1000) (hhi : hi < 1000) {loI hiI : Int32} (hL : loI = nI lo) (hI : hiI = zI ((hi : Int) - 1)) {Q : Option Value → (Nat → Nat → Int32) → (Nat → Nat → Int64) → Prop} {k : Int32 × cd_M → Option cd_Ret} (K : ∀ I1 u s e, ce_num x n lo hi q = .ok (u, s, e) → (∀ a j, ¬ ce_xN a j → I1 a j = I a j) → I1 100 23 = nI u → I1 100 24 = nI s → I1 100 20 = nI e → I1 100 19 = I 100 19 → cw L w (k (nI 0, cd_mm L w I1 J)) Q) (E : ∀ I1 f p, ce_num x n lo hi q = .error (f, p) → (f = 1 ∨ f = 2) → (∀ a j, ¬ ce_xN a j → I1 a j = I a j) → I1 100 19 = nI p → cw L w (k (nI f, cd_mm L w I1 J)) Q) : cw L w ((cd_ci (cd_c 157 [.ref 100, .int loI, .int hiI] (cd_mm L w I J))).bind k) Q := by
  subst hL
  refine cw_ci (cw_mono (cp_157 hn hx ht hq h20 hlo hhi hI) ?_)
  intro v I1 J1 ⟨hJ, f1, hm⟩
  subst hJ
  cases hr : ce_num x n lo hi q with
  | ok a =>
    obtain ⟨u, s, e⟩ := a
    rw [hr] at hm
    obtain ⟨hv, g23, g24, g20, g19⟩ := hm
    exact ⟨_, hv, K I1 u s e hr f1 g23 g24 g20 g19⟩
  | error a =>
    obtain ⟨f, p⟩ := a
    rw [hr] at hm
    obtain ⟨hv, g19⟩ := hm
    exact ⟨_, hv, E I1 f p hr (ce_num_e hq hr).1 f1 g19⟩
theorem ce_P.up {D1 : cd_D} {S1 : cd_S} {I1 : Nat → Nat → Int32} (h : ce_P D S I) (g : ∀ a k, (a = 100 ∧ (25 ≤ k ∧ k ≤ 34) ∨ 114 ≤ a ∧ a ≤ 116) → I1 a k = I a k) (hD : D1 = D) (hS : S1 = S) : ce_P D1 S1 I1 := by subst hD hS; exact h.of g
/-- a cloth, a fault told -/
theorem cp_161e {k f : Nat} {x1 x3 : Int32} (hf : 1 ≤ f ∧ f ≤ 5) (h27 : I 100 27 = nI k) : cw L w (cd_go 161 78 [.ref 100, .int x1, .int (nI f), .int x3] [] (cd_mm L w I J)) (fun v I1 J1 => v = some (.int (nI f)) ∧ J1 = J ∧ ∀ a k, ¬ (a = 100 ∧ k = 27) → I1 a k = I a k) := by
  have h0 : ¬ nI f = 0 := nI_ne0 (by omega) (by omega)
  refine cw_m (fun _ => cd_s161_78) ?_
  rw [if_neg h0]
  refine cw_if (fun _ => ?_) (fun _ => ?_)
  · exact cw_ret ⟨rfl, rfl, fun a k h => cd_up_k2 h⟩
  · exact cw_ret ⟨rfl, rfl, fun a k h => cd_up_k2 h⟩
theorem cp_161f {k f : Nat} {x1 x3 : Int32} (hf : 1 ≤ f ∧ f ≤ 5) (h27 : I 100 27 = nI k) : cw L w (cd_go 161 38 [.ref 100, .int x1, .int (nI f), .int x3] [] (cd_mm L w I J)) (fun v I1 J1 => v = some (.int (nI f)) ∧ J1 = J ∧ ∀ a k, ¬ (a = 100 ∧ k = 27) → I1 a k = I a k) := by
  have h0 : ¬ nI f = 0 := nI_ne0 (by omega) (by omega)
  refine cw_m (fun _ => cd_s161_38) ?_
  rw [if_neg h0]
  exact cp_161e hf h27
theorem cp_161g {k f : Nat} {x1 x3 : Int32} (hf : 1 ≤ f ∧ f ≤ 5) (h27 : I 100 27 = nI k) : cw L w (cd_go 161 18 [.ref 100, .int x1, .int (nI f), .int x3] [] (cd_mm L w I J)) (fun v I1 J1 => v = some (.int (nI f)) ∧ J1 = J ∧ ∀ a k, ¬ (a = 100 ∧ k = 27) → I1 a k = I a k) := by
  have h0 : ¬ nI f = 0 := nI_ne0 (by omega) (by omega)
  refine cw_m (fun _ => cd_s161_18) ?_
  rw [if_neg h0]
  refine cw_if (fun _ => ?_) (fun _ => ?_)
  · exact cp_161f hf h27
  · exact cp_161f hf h27
theorem cp_161 (hn : n ≤ 500) (hx : ∀ k, x k < 256) (ht : ce_txt x n I) (hq : q ≤ n) (h20 : I 100 20 = nI q) (hP : ce_P D S I) (h3 : D 0 1 < 3) : cw L w (cd_c 161 [.ref 100] (cd_mm L w I J)) (ce_pq I J (ce_pC x n q D S)) := by
  have h27 := hP.1.2.1
  generalize hkk : D 0 1 = k at *
  -- what the parts write
  have xP : ∀ a j, ¬ ce_xP a j → ¬ ce_xN a j ∧ ¬ (a = 115) ∧ ¬ (a = 100 ∧ j = 27) := fun a j h => by unfold ce_xP at h; unfold ce_xN; omega
  have err : ∀ (I1 : Nat → Nat → Int32) (f p : Nat), (∀ a j, ¬ ce_xN a j → a ≠ 115 → I1 a j = I a j) → I1 100 19 = nI p → ce_pC x n q D S = .error (f, p) → ∀ (t : Option cd_Ret), cw L w t (fun v I2 J2 => v = some (.int (nI f)) ∧ J2 = J ∧ ∀ a k, ¬ (a = 100 ∧ k = 27) → I2 a k = I1 a k) → cw L w t (ce_pq I J (ce_pC x n q D S)) := by
    intro I1 f p f1 g19 hr t ht
    refine cw_mono ht ?_
    intro v I2 J2 ⟨hv, hJ, f2⟩
    rw [hr]
    exact ⟨fun a k _ => by rw [hJ], fun a j h => by
      obtain ⟨z1, z2, z3⟩ := xP a j h
      rw [f2 a j z3]; exact f1 a j z1 z2, hv, by rw [f2 _ _ (by omega)]; exact g19⟩
  refine cw_c (l := [_, _, _, _]) rfl rfl ?_
  refine cw_m (fun _ => cd_s161_0) ?_
  rw [h27, show (5 : Int32) = nI 5 from rfl, pk_mul]
  refine cp_157k hn hx ht hq h20 0 64 (by decide) (by decide) rfl rfl (fun I1 c s1 e1 n1 f1 g23 g24 g20 g19 => ?_) (fun I1 f p n1 hf f1 g19 => ?_)
  · obtain ⟨-, hc, -, hq1, -⟩ := ce_num_b hq n1
    refine cw_m (fun _ => cd_s161_9) ?_
    rw [if_pos (cd_inN (by omega) (by decide)), nI_clamp (by omega), g23]
    refine cw_m (fun _ => cd_s161_18) ?_
    rw [if_pos (show (1 : Int32) < 3 by decide), if_pos (show nI 0 = 0 from rfl)]
    have f1' : ∀ a j, ¬ ce_xN a j → a ≠ 115 → cd_up I1 115 (5 * k) (nI c) a j = I a j := fun a j h1 h2 => (cd_up_a h2).trans (f1 a j h1)
    have t1 : ce_txt x n (cd_up I1 115 (5 * k) (nI c)) := ht.of (fun a j h => f1' a j (by unfold ce_xN; omega) (by omega))
    refine cp_157k hn hx t1 hq1 ((cd_up_a (by decide)).trans g20) 1 9 (by decide) (by decide) rfl rfl (fun I2 a2 s2 e2 n2 f2 g23 g24 g20 g192 => ?_) (fun I2 f p n2 hf f2 g19 => ?_)
    · obtain ⟨ha1, ha2, -, hq2, -⟩ := ce_num_b hq1 n2
      have f2' : ∀ a j, ¬ ce_xN a j → a ≠ 115 → cd_up I2 115 (5 * k + 1) (nI a2) a j = I a j := fun a j h1 h2 => by rw [cd_up_a h2, f2 a j h1]; exact f1' a j h1 h2
      have t2 : ce_txt x n (cd_up I2 115 (5 * k + 1) (nI a2)) := ht.of (fun a j h => f2' a j (by unfold ce_xN; omega) (by omega))
      refine cw_m (fun _ => cd_s161_27) ?_
      rw [show (1 : Int32) = nI 1 from rfl, nI_add, nI_add, if_pos (cd_inN (by omega) (by decide)), nI_clamp (by omega), g23]
      refine cw_m (fun _ => cd_s161_18) ?_
      rw [if_pos (show nI (1 + 1) < 3 by decide), if_pos (show nI 0 = 0 from rfl)]
      refine cp_157k hn hx t2 hq2 ((cd_up_a (by decide)).trans g20) 1 9 (by decide) (by decide) rfl rfl (fun I3 a3 s3 e3 n3 f3 g23 g24 g20 g193 => ?_) (fun I3 f p n3 hf f3 g19 => ?_)
      · obtain ⟨hd1, hd2, -, hq3, -⟩ := ce_num_b hq2 n3
        have f3' : ∀ a j, ¬ ce_xN a j → a ≠ 115 → cd_up I3 115 (5 * k + (1 + 1)) (nI a3) a j = I a j := fun a j h1 h2 => by rw [cd_up_a h2, f3 a j h1]; exact f2' a j h1 h2
        refine cw_m (fun _ => cd_s161_27) ?_
        rw [nI_add, nI_1, if_pos (cd_inN (by omega) (by decide)), nI_clamp (by omega), g23]
        refine cw_m (fun _ => cd_s161_18) ?_
        rw [if_neg (show ¬ nI (1 + 1 + 1) < 3 by decide)]
        generalize hI4 : cd_up I3 115 (5 * k + (1 + 1)) (nI a3) = I4 at *
        have d2 : I4 115 (5 * k + 2) = nI a3 := by rw [← hI4]; exact cd_up_s
        have d1 : I4 115 (5 * k + 1) = nI a2 := by rw [← hI4, cd_up_k (by omega), f3 _ _ (by unfold ce_xN; omega)]; exact cd_up_s
        have d0 : I4 115 (5 * k) = nI c := by rw [← hI4, cd_up_k (by omega), f3 _ _ (by unfold ce_xN; omega), cd_up_k (by omega), f2 _ _ (by unfold ce_xN; omega)]; exact cd_up_s
        have g24 : I4 100 24 = nI s3 := by rw [← hI4, cd_up_a (by decide)]; exact g24
        have g20 : I4 100 20 = nI e3 := by rw [← hI4, cd_up_a (by decide)]; exact g20
        have g27 : I4 100 27 = nI k := by rw [f3' _ _ (by unfold ce_xN; omega) (by decide)]; exact h27
        have g194 : I4 100 19 = I 100 19 := by rw [← hI4, cd_up_a (by decide), g193, cd_up_a (by decide), g192, cd_up_a (by decide), g19]
        have fr4 : ∀ j, j < 5 * k ∨ 5 * k + 5 ≤ j → I4 115 j = I 115 j := fun j hj => by rw [← hI4, cd_up_k (by omega), f3 _ _ (by unfold ce_xN; omega), cd_up_k (by omega), f2 _ _ (by unfold ce_xN; omega), cd_up_k (by omega), f1 _ _ (by unfold ce_xN; omega)]
        have hpC : ce_pC x n q D S = if 8 < c / 8 + a2 ∨ 8 < c % 8 + a3 then .error (5, s3) else ce_bd (ce_num x n 1 10 e3) fun g => ce_bd (ce_num x n 1 10 g.2.2) fun l => .ok (l.2.2, ce_aC D c a2 a3 g.1 l.1, S) := by
          unfold ce_pC ce_bd
          rw [n1]
          dsimp only
          rw [n2]
          dsimp only
          rw [n3]
        refine cw_m (fun _ => cd_s161_38) ?_
        rw [if_pos (show nI 0 = 0 from rfl)]
        rw [show (1 : Int32) = nI 1 from rfl, show (2 : Int32) = nI 2 from rfl, nI_add, nI_add, if_pos (cd_inN (by omega) (by decide)), if_pos (cd_inN (by omega) (by decide)), nI_clamp (by omega), nI_clamp (by omega), nI_clamp (by omega), if_pos (cd_inN (by omega) (by decide)), if_pos (cd_inN (by omega) (by decide)), d0, d1, d2]
        have v1 : nI c / 8 + nI a2 = nI (c / 8 + a2) := by rw [show (8 : Int32) = nI 8 from rfl, pk_div (by omega) (by decide) (by decide), nI_add]
        have v2 : nI c - nI c / 8 * 8 + nI a3 = nI (c % 8 + a3) := by rw [show (8 : Int32) = nI 8 from rfl, pk_rem (by omega) (by decide) (by decide), nI_add]
        rw [v1, v2]
        have bad : (8 < c / 8 + a2 ∨ 8 < c % 8 + a3) → cw L w ((cd_ci (cd_c 153 [.ref 100, .int 5, .int (I4 100 24)] (cd_mm L w I4 J))).bind fun q => cd_go 161 75 [.ref 100, .int (nI (5 * k)), .int (nI 0), .int (nI (1 + 1 + 1))] [.int q.1] q.2) (ce_pq I J (ce_pC x n q D S)) := fun hb => by
          rw [cp_153, cw_bi, g24]
          refine cw_m (fun _ => cd_s161_75) ?_
          exact err _ 5 s3 (fun a j h1 h2 => (cd_up_k2 (by unfold ce_xN at h1; omega)).trans (f3' a j h1 h2)) cd_up_s (by rw [hpC, if_pos hb]) _ (cp_161e (f := 5) (k := k) (by omega) ((cd_up_k (by decide)).trans g27))
        by_cases b1 : 8 < c / 8 + a2
        · rw [if_pos (show (8 : Int32) < nI (c / 8 + a2) from nI_lt (a := 8) b1 (by omega))]
          exact bad (Or.inl b1)
        · rw [if_neg (show ¬ (8 : Int32) < nI (c / 8 + a2) from nI_nlt (a := 8) (by omega) (by decide))]
          by_cases b2 : 8 < c % 8 + a3
          · rw [if_pos (show (8 : Int32) < nI (c % 8 + a3) from nI_lt (a := 8) b2 (by omega))]
            exact bad (Or.inr b2)
          · rw [if_neg (show ¬ (8 : Int32) < nI (c % 8 + a3) from nI_nlt (a := 8) (by omega) (by decide))]
            rw [if_neg (show ¬ (8 < c / 8 + a2 ∨ 8 < c % 8 + a3) by omega)] at hpC
            have t4 : ce_txt x n I4 := ht.of (fun a j h => f3' a j (by unfold ce_xN; omega) (by omega))
            refine cw_m (fun _ => cd_s161_78) ?_
            rw [if_pos (show (3 : Int32) < 5 by decide), if_pos (show nI 0 = 0 from rfl)]
            refine cp_157k hn hx t4 hq3 g20 1 10 (by decide) (by decide) rfl rfl (fun I5 a5 s5 e5 n5 f5 g23 g24 g20 g195 => ?_) (fun I5 f p n5 hf f5 g19 => ?_)
            · obtain ⟨-, -, -, hq5, -⟩ := ce_num_b hq3 n5
              have f5' : ∀ a j, ¬ ce_xN a j → a ≠ 115 → cd_up I5 115 (5 * k + 3) (nI a5) a j = I a j := fun a j h1 h2 => by rw [cd_up_a h2, f5 a j h1]; exact f3' a j h1 h2
              have t5 : ce_txt x n (cd_up I5 115 (5 * k + 3) (nI a5)) := ht.of (fun a j h => f5' a j (by unfold ce_xN; omega) (by omega))
              refine cw_m (fun _ => cd_s161_87) ?_
              rw [show (3 : Int32) = nI 3 from rfl, nI_add, nI_1, if_pos (cd_inN (by omega) (by decide)), nI_clamp (by omega), g23]
              refine cw_m (fun _ => cd_s161_78) ?_
              rw [if_pos (show nI (3 + 1) < 5 by decide), if_pos (show nI 0 = 0 from rfl)]
              refine cp_157k hn hx t5 hq5 ((cd_up_a (by decide)).trans g20) 1 10 (by decide) (by decide) rfl rfl (fun I6 a6 s6 e6 n6 f6 g23 g24 g20 g196 => ?_) (fun I6 f p n6 hf f6 g19 => ?_)
              · have hres : ce_pC x n q D S = .ok (e6, ce_aC D c a2 a3 a5 a6, S) := by
                  rw [hpC]
                  unfold ce_bd
                  rw [n5]
                  dsimp only
                  rw [n6]
                rw [hres]
                have f6' : ∀ a j, ¬ ce_xN a j → a ≠ 115 → cd_up I6 115 (5 * k + (3 + 1)) (nI a6) a j = I a j := fun a j h1 h2 => by rw [cd_up_a h2, f6 a j h1]; exact f5' a j h1 h2
                refine cw_m (fun _ => cd_s161_87) ?_
                rw [nI_add, nI_1, if_pos (cd_inN (by omega) (by decide)), nI_clamp (by omega), g23]
                refine cw_m (fun _ => cd_s161_78) ?_
                rw [if_neg (show ¬ nI (3 + 1 + 1) < 5 by decide), f6' 100 27 (by unfold ce_xN; omega) (by decide), h27, nI_1]
                have y : ∀ j, cd_up (cd_up I6 115 (5 * k + (3 + 1)) (nI a6)) 100 27 (nI (k + 1)) 115 j = cd_up I6 115 (5 * k + (3 + 1)) (nI a6) 115 j := fun j => cd_up_a (by decide)
                have z : ∀ a j, ¬ ce_xN a j → a ≠ 115 → ¬ (a = 100 ∧ j = 27) → cd_up (cd_up I6 115 (5 * k + (3 + 1)) (nI a6)) 100 27 (nI (k + 1)) a j = I a j := fun a j h1 h2 h3 => (cd_up_k2 h3).trans (f6' a j h1 h2)
                obtain ⟨p1, p2, p3, p4⟩ := hP
                refine cw_ret ⟨fun _ _ _ => rfl, fun a j h => ?_, rfl, (cd_up_k (by decide)).trans ((cd_up_a (by decide)).trans g20), ⟨?_, fun t htt => ?_, fun k2 hk2 => ?_, fun k2 hk2 => ?_⟩, ?_⟩
                · obtain ⟨z1, z2, z3⟩ := xP a j h
                  exact z a j z1 z2 z3
                · obtain ⟨b1, b2, b3, b4, b5, b6, b7⟩ := p1
                  refine ⟨(z _ _ (by unfold ce_xN; omega) (by decide) (by omega)).trans b1, ?_, (z _ _ (by unfold ce_xN; omega) (by decide) (by omega)).trans b3, (z _ _ (by unfold ce_xN; omega) (by decide) (by omega)).trans b4, (z _ _ (by unfold ce_xN; omega) (by decide) (by omega)).trans b5, (z _ _ (by unfold ce_xN; omega) (by decide) (by omega)).trans b6, (z _ _ (by unfold ce_xN; omega) (by decide) (by omega)).trans b7⟩
                  rw [cd_up_s, ← hkk]
                  rfl
                · rw [z _ _ (by unfold ce_xN; omega) (by decide) (by omega), z _ _ (by unfold ce_xN; omega) (by decide) (by omega), z _ _ (by unfold ce_xN; omega) (by decide) (by omega), z _ _ (by unfold ce_xN; omega) (by decide) (by omega), z _ _ (by unfold ce_xN; omega) (by decide) (by omega)]
                  exact p2 t htt
                · replace hk2 : k2 < D 0 1 + 1 := hk2
                  rw [y, y, y, y, y]
                  have w6 : ∀ j, j < 5 * k + 3 ∨ 5 * k + 5 ≤ j → cd_up I6 115 (5 * k + (3 + 1)) (nI a6) 115 j = I4 115 j := fun j hj => by rw [cd_up_k (by omega), f6 _ _ (by unfold ce_xN; omega), cd_up_k (by omega), f5 _ _ (by unfold ce_xN; omega)]
                  by_cases hke : k2 = k
                  · have e3 : cd_up I6 115 (5 * k + (3 + 1)) (nI a6) 115 (5 * k + 3) = nI a5 := by rw [cd_up_k (by omega), f6 _ _ (by unfold ce_xN; omega)]; exact cd_up_s
                    have e4 : cd_up I6 115 (5 * k + (3 + 1)) (nI a6) 115 (5 * k + 4) = nI a6 := cd_up_s
                    rw [hke, w6 _ (by omega), w6 _ (by omega), w6 _ (by omega), d0, d1, d2, e3, e4]
                    simp [ce_aC, cd_up, hkk]
                  · rw [w6 _ (by omega), w6 _ (by omega), w6 _ (by omega), w6 _ (by omega), w6 _ (by omega), fr4 _ (by omega), fr4 _ (by omega), fr4 _ (by omega), fr4 _ (by omega), fr4 _ (by omega)]
                    have := p3 k2 (by omega)
                    simp [ce_aC, cd_up, hkk, hke]
                    exact this
                · rw [z _ _ (by unfold ce_xN; omega) (by decide) (by omega), z _ _ (by unfold ce_xN; omega) (by decide) (by omega), z _ _ (by unfold ce_xN; omega) (by decide) (by omega), z _ _ (by unfold ce_xN; omega) (by decide) (by omega)]
                  exact p4 k2 hk2
                · rw [cd_up_k (by decide), cd_up_a (by decide), g196, cd_up_a (by decide), g195]; exact g194
              · refine cw_m (fun _ => cd_s161_87) ?_
                rw [nI_add, nI_1, if_pos (cd_inN (by omega) (by decide)), nI_clamp (by omega)]
                exact err _ f p (fun a j h1 h2 => by rw [cd_up_a h2, f6 a j h1]; exact f5' a j h1 h2) ((cd_up_a (by decide)).trans g19) (by rw [hpC]; unfold ce_bd; rw [n5]; dsimp only; rw [n6]) _ (cp_161e (k := k) (by omega) (by rw [cd_up_a (by decide), f6 _ _ (by unfold ce_xN; omega), f5' _ _ (by unfold ce_xN; omega) (by decide)]; exact h27))
            · refine cw_m (fun _ => cd_s161_87) ?_
              rw [show (3 : Int32) = nI 3 from rfl, nI_add, nI_1, if_pos (cd_inN (by omega) (by decide)), nI_clamp (by omega)]
              exact err _ f p (fun a j h1 h2 => by rw [cd_up_a h2, f5 a j h1]; exact f3' a j h1 h2) ((cd_up_a (by decide)).trans g19) (by rw [hpC]; unfold ce_bd; rw [n5]) _ (cp_161e (k := k) (by omega) (by rw [cd_up_a (by decide), f5 _ _ (by unfold ce_xN; omega)]; exact g27))
      · refine cw_m (fun _ => cd_s161_27) ?_
        rw [nI_add, nI_1, if_pos (cd_inN (by omega) (by decide)), nI_clamp (by omega)]
        exact err _ f p (fun a j h1 h2 => by rw [cd_up_a h2, f3 a j h1]; exact f2' a j h1 h2) ((cd_up_a (by decide)).trans g19) (by unfold ce_pC ce_bd; rw [n1]; dsimp only; rw [n2]; dsimp only; rw [n3]) _ (cp_161g (k := k) (by omega) (by rw [cd_up_a (by decide), f3 _ _ (by unfold ce_xN; omega), f2' _ _ (by unfold ce_xN; omega) (by decide)]; exact h27))
    · refine cw_m (fun _ => cd_s161_27) ?_
      rw [show (1 : Int32) = nI 1 from rfl, nI_add, nI_add, if_pos (cd_inN (by omega) (by decide)), nI_clamp (by omega)]
      exact err _ f p (fun a j h1 h2 => by rw [cd_up_a h2, f2 a j h1]; exact f1' a j h1 h2) ((cd_up_a (by decide)).trans g19) (by unfold ce_pC ce_bd; rw [n1]; dsimp only; rw [n2]) _ (cp_161g (k := k) (by omega) (by rw [cd_up_a (by decide), f2 _ _ (by unfold ce_xN; omega), f1' _ _ (by unfold ce_xN; omega) (by decide)]; exact h27))
  · refine cw_m (fun _ => cd_s161_9) ?_
    rw [if_pos (cd_inN (by omega) (by decide)), nI_clamp (by omega)]
    exact err _ f p (fun a j h1 h2 => (cd_up_a h2).trans (f1 a j h1)) ((cd_up_a (by decide)).trans g19) (by unfold ce_pC ce_bd; rw [n1]) _ (cp_161g (k := k) (by omega) (by rw [cd_up_a (by decide), f1 _ _ (by unfold ce_xN; omega)]; exact h27))
end CFG
