/-! ===== the reference: a clause ===== -/
theorem ce_cw_b {x : Nat → Nat} {s m v : Nat} (h : ce_cw x s m = some v) : v ≤ 4 := by
  unfold ce_cw at h
  repeat' split at h
  all_goals first | cases h; decide | cases h
section CFL
variable {L : Nat} {w : Bool} {I : Nat → Nat → Int32} {J : Nat → Nat → Int64} {D : cd_D} {S : cd_S}
variable {x : Nat → Nat} {n q s m : Nat}
/-- behind a clause's own part: its stop -/
theorem cp_168z (hn : n ≤ 500) (hx : ∀ k, x k < 256) (ht : ce_txt x n I) {r : ce_R} (hr : ∀ e D1 S1, r = .ok (e, D1, S1) → e ≤ n) (hr2 : ∀ f p, r = .error (f, p) → 1 ≤ f ∧ f ≤ 5) {I0 : Nat → Nat → Int32} {J0 : Nat → Nat → Int64} (h0 : ∀ a j, ¬ ce_xP a j → I a j = I0 a j) (h19 : I 100 19 = I0 100 19) (hj : ∀ a k, a ≠ 100 → J a k = J0 a k) {c : Nat} {x1 x2 : Int32} {K : Int32 × cd_M → Option cd_Ret} (hK : ∀ u I1 J1 Q, cw L w (cd_go 168 90 [.ref 100, .int x1, .int x2, .null] [.int u] (cd_mm L w I1 J1)) Q → cw L w (K (u, cd_mm L w I1 J1)) Q) (hc : cw L w (cd_c c [.ref 100] (cd_mm L w I J)) (ce_pq I J r)) : cw L w ((cd_ci (cd_c c [.ref 100] (cd_mm L w I J))).bind K) (ce_pq I0 J0 (ce_bd r fun a => ce_bd (ce_stop x n a.1) fun z => .ok (z, a.2))) := by
  refine cw_ci (cw_mono hc ?_)
  intro v I1 J1 ⟨hJ, hI, hm⟩
  cases hrr : r with
  | error a =>
    obtain ⟨f, p⟩ := a
    rw [hrr] at hm
    obtain ⟨hv, g19⟩ := hm
    have hf := hr2 f p hrr
    refine ⟨_, hv, hK _ _ _ _ ?_⟩
    refine cw_m (fun _ => cd_s168_90) ?_
    rw [if_pos (show (0 : Int32) < nI f from nI_lt (a := 0) (by omega) (by omega))]
    refine cw_m (fun _ => cd_s168_97) ?_
    exact cw_ret ⟨fun a k h => (hJ a k h).trans (hj a k h), fun a j h => (hI a j h).trans (h0 a j h), rfl, g19⟩
  | ok a =>
    obtain ⟨e, D1, S1⟩ := a
    rw [hrr] at hm
    obtain ⟨hv, g20, gP, g19⟩ := hm
    have he := hr e D1 S1 hrr
    refine ⟨_, hv, hK _ _ _ _ ?_⟩
    refine cw_m (fun _ => cd_s168_90) ?_
    rw [if_neg (show ¬ (0 : Int32) < nI 0 by decide)]
    have t1 : ce_txt x n I1 := ht.of (fun a j h => hI a j (by unfold ce_xP; omega))
    refine cw_ci (cw_mono (cp_158 hn hx t1 he g20) ?_)
    intro v2 I2 J2 ⟨hJ2, f2, hm⟩
    subst hJ2
    have fr : ∀ a j, ¬ ce_xP a j → I2 a j = I0 a j := fun a j h => by rw [f2 a j (by unfold ce_xP at h; unfold ce_xN; omega), hI a j h, h0 a j h]
    cases hs : ce_stop x n e with
    | error a =>
      obtain ⟨f, p⟩ := a
      rw [hs] at hm
      obtain ⟨hv, g19⟩ := hm
      refine ⟨_, hv, ?_⟩
      refine cw_m (fun _ => cd_s168_97) ?_
      have e9 : (ce_bd (Except.ok (e, D1, S1) : ce_R) fun a => ce_bd (ce_stop x n a.1) fun z => Except.ok (z, a.2)) = (.error (f, p) : ce_R) := by
        show (ce_bd (ce_stop x n e) fun z => Except.ok (z, D1, S1)) = _
        rw [hs]
        rfl
      rw [e9]
      exact cw_ret ⟨fun a k h => (hJ a k h).trans (hj a k h), fr, rfl, g19⟩
    | ok z =>
      rw [hs] at hm
      obtain ⟨hv, g20, g192⟩ := hm
      refine ⟨_, hv, ?_⟩
      refine cw_m (fun _ => cd_s168_97) ?_
      have e9 : (ce_bd (Except.ok (e, D1, S1) : ce_R) fun a => ce_bd (ce_stop x n a.1) fun z => Except.ok (z, a.2)) = (.ok (z, D1, S1) : ce_R) := by
        show (ce_bd (ce_stop x n e) fun z => Except.ok (z, D1, S1)) = _
        rw [hs]
        rfl
      rw [e9]
      exact cw_ret ⟨fun a k h => (hJ a k h).trans (hj a k h), fr, rfl, g20, gP.of (fun a j h => f2 a j (by unfold ce_xN; omega)), by rw [g192, g19, h19]⟩
/-- a clause that can't be taken -/
theorem cp_168e {I0 : Nat → Nat → Int32} {J0 : Nat → Nat → Int64} (h0 : ∀ a j, ¬ ce_xP a j → I a j = I0 a j) (hj : ∀ a k, a ≠ 100 → J a k = J0 a k) {x1 x2 : Int32} {f p : Nat} (h20 : I 100 20 = nI p) {r : ce_R} (hr : r = .error (f, p)) {fI : Int32} (hf : fI = nI f) : cw L w ((cd_ci (cd_c 153 [.ref 100, .int fI, .int (I 100 20)] (cd_mm L w I J))).bind fun q => cd_go 168 60 [.ref 100, .int x1, .int x2, .null] [.int q.1] q.2) (ce_pq I0 J0 r) := by
  subst hf
  rw [cp_153, cw_bi, h20, hr]
  refine cw_m (fun _ => cd_s168_60) ?_
  exact cw_ret ⟨hj, fun a j h => (cd_up_k2 (by unfold ce_xP at h; omega)).trans (h0 a j h), rfl, cd_up_s⟩
theorem cp_168 (hn : n ≤ 500) (hx : ∀ k, x k < 256) (ht : ce_txt x n I) (hq : q ≤ n) (h20 : I 100 20 = nI q) (hP : ce_P D S I) (hO : ce_okP D S) : cw L w (cd_c 168 [.ref 100] (cd_mm L w I J)) (ce_pq I J (ce_pc x n q D S)) := by
  have hsk : ce_sk x n q ≤ n := (ce_end_b (p := fun k => !decide (x k = 32)) hq).2.1
  have hwe := ce_end_b (p := fun k => !ce_let (x k)) hsk
  replace hwe : ce_sk x n q ≤ ce_we x n (ce_sk x n q) ∧ ce_we x n (ce_sk x n q) ≤ n := ⟨hwe.1, hwe.2.1⟩
  have hlt := ce_we_let (x := x) hsk
  have ok := fun {z D1 S1} => ce_pW_ok (D := D) (S := S) (x := x) hO hwe.1 hwe.2 (z := z) (D1 := D1) (S1 := S1)
  have er := fun {f p} => ce_pW_e (D := D) (S := S) (x := x) hwe.1 hwe.2 (f := f) (p := p)
  obtain ⟨hd, ⟨⟨hS1, -⟩, -⟩, -, -, hb3, hb18⟩ := hO
  have hd0 := hd.1
  refine cw_c (l := [_, _, _, _]) rfl rfl ?_
  refine cw_m (fun _ => cd_s168_0) ?_
  refine cw_cv (cw_mono (cp_154 hn hx ht hq h20) ?_)
  intro v I1 J1 ⟨hv, j1, f1, g20, g22, g21⟩
  refine ⟨hv, ?_⟩
  have t1 : ce_txt x n I1 := ht.of (fun a j h => f1 a j (by omega))
  have hP1 : ce_P D S I1 := hP.of (fun a j h => f1 a j (by omega))
  have fP : ∀ a j, ¬ ce_xP a j → I1 a j = I a j := fun a j h => f1 a j (by unfold ce_xP at h; omega)
  have h25 := hP1.1.1
  have h27 := hP1.1.2.1
  have h29 := hP1.1.2.2.1
  have h33 := hP1.1.2.2.2.2.2.1
  have hpc : ce_pc x n q D S = ce_bd (ce_pW x n (ce_sk x n q) (ce_we x n (ce_sk x n q)) D S) fun a => ce_bd (ce_stop x n a.1) fun z => .ok (z, a.2) := rfl
  generalize ce_sk x n q = s at *
  generalize ce_we x n s = e at *
  have f2 : ∀ a j, ¬ ce_xP a j → cd_up I1 100 20 (nI e) a j = I a j := fun a j h => (cd_up_k2 (by unfold ce_xP at h; omega)).trans (fP a j h)
  have t2 : ce_txt x n (cd_up I1 100 20 (nI e)) := ht.of (fun a j h => f2 a j (by unfold ce_xP; omega))
  have hP2 : ce_P D S (cd_up I1 100 20 (nI e)) := hP1.of (fun a j h => cd_up_k2 (by omega))
  have g192 : cd_up I1 100 20 (nI e) 100 19 = I 100 19 := (cd_up_k (by decide)).trans (f1 _ _ (by omega))
  refine cw_m (fun _ => cd_s168_2) ?_
  rw [cp_167 hx hlt g21, cw_bi]
  refine cw_m (fun _ => cd_s168_4) ?_
  rw [hpc]
  cases hk : ce_cw x s (e - s) with
  | none =>
    have hw : ce_pW x n s e D S = .error (1, s) := by unfold ce_pW; rw [hk]
    rw [if_neg (show ¬ cd_oi none = 0 by decide), if_neg (show ¬ cd_oi none = 1 by decide), if_neg (show ¬ cd_oi none = 2 by decide)]
    refine cw_m (fun _ => cd_s168_35) ?_
    rw [if_pos (show cd_oi none < 0 by decide), if_pos (show cd_oi none < 0 by decide)]
    exact cp_168e fP j1 g20 (by rw [hw]; rfl) rfl
  | some v =>
    have hv4 := ce_cw_b hk
    have go45 : ∀ (c : Nat) (x2 : Int32) (K : Int32 × cd_M → Option cd_Ret), (∀ u I1 J1 Q, cw L w (cd_go 168 90 [.ref 100, .int (nI v), .int x2, .null] [.int u] (cd_mm L w I1 J1)) Q → cw L w (K (u, cd_mm L w I1 J1)) Q) → cw L w (cd_c c [.ref 100] (cd_mm L w (cd_up I1 100 20 (nI e)) J1)) (ce_pq (cd_up I1 100 20 (nI e)) J1 (ce_pW x n s e D S)) → cw L w ((cd_ci (cd_c c [.ref 100] (cd_mm L w (cd_up I1 100 20 (nI e)) J1))).bind K) (ce_pq I J (ce_bd (ce_pW x n s e D S) fun a => ce_bd (ce_stop x n a.1) fun z => .ok (z, a.2))) := fun c x2 K hK h => cp_168z hn hx t2 (fun e D1 S1 h => (ok h).2.1) (fun f p h => (er h).1) f2 g192 j1 hK h
    have full : ∀ (f : Nat), ce_pW x n s e D S = .error (4, s) → 0 ≤ f → cw L w (cd_go 168 45 [.ref 100, .int (nI v), .int 1, .null] [] (cd_mm L w I1 J1)) (ce_pq I J (ce_bd (ce_pW x n s e D S) fun a => ce_bd (ce_stop x n a.1) fun z => .ok (z, a.2))) := fun _ h _ => by
      refine cw_m (fun _ => cd_s168_45) ?_
      rw [if_neg (show ¬ (1 : Int32) = 0 by decide), if_neg (show ¬ nI v < 0 from nI_pos (by omega)), if_neg (show ¬ (1 : Int32) = 0 by decide)]
      exact cp_168e fP j1 g20 (by rw [h]; rfl) rfl
    match v, hk, hv4 with
    | 0, hk, _ =>
      rw [if_pos (show cd_oi (some 0) = 0 by decide), h25]
      by_cases h8 : D 0 0 = 8
      · rw [if_pos (show nI (D 0 0) = 8 by rw [h8]; rfl), if_neg (show ¬ cd_oi (some 0) < 0 by decide), if_neg (show ¬ cd_oi (some 0) = 3 by decide)]
        exact full 0 (by unfold ce_pW; rw [hk]; exact if_pos h8) (Nat.zero_le _)
      · rw [if_neg (show ¬ nI (D 0 0) = 8 from fun h => h8 ((nI_eq (by omega) (by decide)).mp (h.trans (show (8 : Int32) = nI 8 from rfl)))), if_neg (show ¬ cd_oi (some 0) < 0 by decide), if_neg (show ¬ cd_oi (some 0) = 3 by decide)]
        have hw : ce_pW x n s e D S = ce_pT x n e D S := by unfold ce_pW; rw [hk]; exact if_neg h8
        have go : cw L w (cd_c 160 [.ref 100] (cd_mm L w (cd_up I1 100 20 (nI e)) J1)) (ce_pq (cd_up I1 100 20 (nI e)) J1 (ce_pW x n s e D S)) := by
          rw [hw]
          exact cp_160 hn hx t2 hwe.2 cd_up_s hP2 (by omega) hS1
        refine cw_m (fun _ => cd_s168_45) ?_
        rw [if_pos rfl, if_pos (show cd_oi (some 0) = 0 by decide), g22]
        refine go45 160 0 _ (fun u I3 J3 Q h => ?_) go
        show cw L w (cd_go 168 69 _ _ _) Q
        refine cw_m (fun _ => cd_s168_69) ?_
        exact h
    | 1, hk, _ =>
      rw [if_neg (show ¬ cd_oi (some 1) = 0 by decide), if_pos (show cd_oi (some 1) = 1 by decide), h27]
      by_cases h8 : D 0 1 = 3
      · rw [if_pos (show nI (D 0 1) = 3 by rw [h8]; rfl), if_neg (show ¬ cd_oi (some 1) < 0 by decide), if_neg (show ¬ cd_oi (some 1) = 3 by decide)]
        exact full 0 (by unfold ce_pW; rw [hk]; exact if_pos h8) (Nat.zero_le _)
      · rw [if_neg (show ¬ nI (D 0 1) = 3 from fun h => h8 ((nI_eq (by omega) (by decide)).mp (h.trans (show (3 : Int32) = nI 3 from rfl)))), if_neg (show ¬ cd_oi (some 1) < 0 by decide), if_neg (show ¬ cd_oi (some 1) = 3 by decide)]
        have hw : ce_pW x n s e D S = ce_pC x n e D S := by unfold ce_pW; rw [hk]; exact if_neg h8
        have go : cw L w (cd_c 161 [.ref 100] (cd_mm L w (cd_up I1 100 20 (nI e)) J1)) (ce_pq (cd_up I1 100 20 (nI e)) J1 (ce_pW x n s e D S)) := by
          rw [hw]
          exact cp_161 hn hx t2 hwe.2 cd_up_s hP2 (by omega)
        refine cw_m (fun _ => cd_s168_45) ?_
        rw [if_pos rfl, if_neg (show ¬ cd_oi (some 1) = 0 by decide), if_pos (show cd_oi (some 1) = 1 by decide), g22]
        refine go45 161 0 _ (fun u I3 J3 Q h => ?_) go
        show cw L w (cd_go 168 75 _ _ _) Q
        refine cw_m (fun _ => cd_s168_75) ?_
        exact h
    | 2, hk, _ =>
      rw [if_neg (show ¬ cd_oi (some 2) = 0 by decide), if_neg (show ¬ cd_oi (some 2) = 1 by decide), if_pos (show cd_oi (some 2) = 2 by decide), h29]
      by_cases h8 : D 0 2 = 12
      · rw [if_pos (show nI (D 0 2) = 12 by rw [h8]; rfl), if_neg (show ¬ cd_oi (some 2) < 0 by decide), if_neg (show ¬ cd_oi (some 2) = 3 by decide)]
        exact full 0 (by unfold ce_pW; rw [hk]; exact if_pos h8) (Nat.zero_le _)
      · rw [if_neg (show ¬ nI (D 0 2) = 12 from fun h => h8 ((nI_eq (by omega) (by decide)).mp (h.trans (show (12 : Int32) = nI 12 from rfl))))]
        have hw : ce_pW x n s e D S = ce_pH x n e D S := by unfold ce_pW; rw [hk]; exact if_neg h8
        have go : cw L w (cd_c 164 [.ref 100] (cd_mm L w (cd_up I1 100 20 (nI e)) J1)) (ce_pq (cd_up I1 100 20 (nI e)) J1 (ce_pW x n s e D S)) := by
          rw [hw]
          exact cp_164 hn hx t2 hwe.2 cd_up_s hP2 hd hS1 (by omega) hb3
        refine cw_m (fun _ => cd_s168_35) ?_
        rw [if_neg (show ¬ cd_oi (some 2) < 0 by decide), if_neg (show ¬ cd_oi (some 2) = 3 by decide)]
        refine cw_m (fun _ => cd_s168_45) ?_
        rw [if_pos rfl, if_neg (show ¬ cd_oi (some 2) = 0 by decide), if_neg (show ¬ cd_oi (some 2) = 1 by decide), if_pos (show cd_oi (some 2) = 2 by decide), g22]
        refine go45 164 0 _ (fun u I3 J3 Q h => ?_) go
        show cw L w (cd_go 168 81 _ _ _) Q
        refine cw_m (fun _ => cd_s168_81) ?_
        exact h
    | 3, hk, _ =>
      rw [if_neg (show ¬ cd_oi (some 3) = 0 by decide), if_neg (show ¬ cd_oi (some 3) = 1 by decide), if_neg (show ¬ cd_oi (some 3) = 2 by decide)]
      refine cw_m (fun _ => cd_s168_35) ?_
      rw [if_neg (show ¬ cd_oi (some 3) < 0 by decide), if_pos (show cd_oi (some 3) = 3 by decide), h33]
      by_cases h8 : D 0 18 = 1
      · rw [if_neg (show ¬ nI (D 0 18) = 0 by rw [h8]; decide)]
        exact cp_168e fP j1 g20 (by
          have : ce_pW x n s e D S = .error (3, s) := by unfold ce_pW; rw [hk]; exact if_pos h8
          rw [this]; rfl) rfl
      · rw [if_pos (show nI (D 0 18) = 0 by rw [show D 0 18 = 0 by omega]; rfl)]
        have hw : ce_pW x n s e D S = ce_pL x n e D S := by unfold ce_pW; rw [hk]; exact if_neg h8
        have go : cw L w (cd_c 165 [.ref 100] (cd_mm L w (cd_up I1 100 20 (nI e)) J1)) (ce_pq (cd_up I1 100 20 (nI e)) J1 (ce_pW x n s e D S)) := by
          rw [hw]
          exact cp_165 hn hx t2 hwe.2 cd_up_s hP2
        refine cw_m (fun _ => cd_s168_45) ?_
        rw [if_pos rfl, if_neg (show ¬ cd_oi (some 3) = 0 by decide), if_neg (show ¬ cd_oi (some 3) = 1 by decide), if_neg (show ¬ cd_oi (some 3) = 2 by decide), if_pos (show cd_oi (some 3) = 3 by decide), g22]
        refine go45 165 0 _ (fun u I3 J3 Q h => ?_) go
        show cw L w (cd_go 168 87 _ _ _) Q
        refine cw_m (fun _ => cd_s168_87) ?_
        exact h
    | 4, hk, _ =>
      rw [if_neg (show ¬ cd_oi (some 4) = 0 by decide), if_neg (show ¬ cd_oi (some 4) = 1 by decide), if_neg (show ¬ cd_oi (some 4) = 2 by decide)]
      refine cw_m (fun _ => cd_s168_35) ?_
      rw [if_neg (show ¬ cd_oi (some 4) < 0 by decide), if_neg (show ¬ cd_oi (some 4) = 3 by decide)]
      have hw : ce_pW x n s e D S = ce_pR x n e D S := by unfold ce_pW; rw [hk]; rfl
      have go : cw L w (cd_c 166 [.ref 100] (cd_mm L w (cd_up I1 100 20 (nI e)) J1)) (ce_pq (cd_up I1 100 20 (nI e)) J1 (ce_pW x n s e D S)) := by
        rw [hw]
        exact cp_166 hn hx t2 hwe.2 cd_up_s hP2 (by omega) (by omega) (fun k hk => by have := hd.2.2.2 k hk; omega) hb3
      refine cw_m (fun _ => cd_s168_45) ?_
      rw [if_pos rfl, if_neg (show ¬ cd_oi (some 4) = 0 by decide), if_neg (show ¬ cd_oi (some 4) = 1 by decide), if_neg (show ¬ cd_oi (some 4) = 2 by decide), if_neg (show ¬ cd_oi (some 4) = 3 by decide), g22]
      exact go45 166 0 _ (fun u I3 J3 Q h => h) go
end CFL
