/-! ===== the reference: want, run ===== -/
section CFP
variable {L : Nat} {w : Bool} {I : Nat → Nat → Int32} {J : Nat → Nat → Int64} {D : cd_D} {S : cd_S}
variable {x : Nat → Nat} {n q s m : Nat} {Y : ce_Y}
def ce_q238 (u : Nat) (I0 : Nat → Nat → Int32) (J0 : Nat → Nat → Int64) (r : Except (Nat × Nat) (Nat → Nat)) : Option Value → (Nat → Nat → Int32) → (Nat → Nat → Int64) → Prop := fun v I1 J1 => (∀ a k, a ≠ 100 → J1 a k = J0 a k) ∧ (∀ a j, ¬ ce_xN a j → ¬ (a = 132 ∧ 5 * u ≤ j ∧ j < 5 * u + 5) → I1 a j = I0 a j) ∧ match r with
  | .error (f, p) => v = some (.int (nI f)) ∧ I1 100 19 = nI p
  | .ok V => v = some (.int (nI 0)) ∧ I1 100 19 = I0 100 19 ∧ ∀ k, k < 5 → I1 132 (5 * u + k) = nI (V k)
/-- a fault told: the loop ends -/
theorem cp_238x {f : Nat} {x1 x3 : Int32} {w4 : Value} (hf : 1 ≤ f ∧ f ≤ 5) : cw L w (cd_go 238 67 [.ref 100, .int x1, .int (nI f), .int x3, w4] [] (cd_mm L w I J)) (fun v I1 J1 => v = some (.int (nI f)) ∧ I1 = I ∧ J1 = J) := by
  refine cw_m (fun _ => cd_s238_67) ?_
  rw [if_neg (show ¬ nI f = 0 from nI_ne0 (by omega) (by omega))]
  exact cw_ret ⟨rfl, rfl, rfl⟩
theorem cp_238l (hn : n ≤ 500) (hx : ∀ k, x k < 256) {u : Nat} (hu : u < 4) {I0 : Nat → Nat → Int32} {J0 : Nat → Nat → Int64} : ∀ (f c q : Nat) (V : Nat → Nat) (I : Nat → Nat → Int32) (J : Nat → Nat → Int64) (w4 : Value), q ≤ n → 4 < f + c → c ≤ 4 → ce_txt x n I → I 100 20 = nI q → (∀ k, k < 5 → I 132 (5 * u + k) = nI (V k)) → (∀ a j, ¬ ce_xN a j → ¬ (a = 132 ∧ 5 * u ≤ j ∧ j < 5 * u + 5) → I a j = I0 a j) → (∀ a k, a ≠ 100 → J a k = J0 a k) → I 100 19 = I0 100 19 → cw L w (cd_go 238 67 [.ref 100, .int (nI (5 * u)), .int (nI 0), .int (nI c), w4] [] (cd_mm L w I J)) (ce_q238 u I0 J0 (ce_pV x n f c q V)) := by
  intro f
  induction f with
  | zero => intro c q V I J w4 hq hf hc; omega
  | succ f ih =>
    intro c q V I J w4 hq hf hc ht h20 hV fI fJ h19
    have hsk := ce_end_b (p := fun k => !decide (x k = 32)) hq
    replace hsk : q ≤ ce_sk x n q ∧ ce_sk x n q ≤ n := ⟨hsk.1, hsk.2.1⟩
    have hwe : ce_we x n (ce_sk x n q) ≤ n := (ce_end_b (p := fun k => !ce_let (x k)) hsk.2).2.1
    have hlt := ce_we_let (x := x) hsk.2
    refine cw_m (fun _ => cd_s238_67) ?_
    rw [if_pos (show nI 0 = 0 from rfl)]
    refine cw_ci (cw_mono (cp_152 hn hx ht hq h20) ?_)
    intro v I1 J1 ⟨hv, hJ, f1, g20⟩
    subst hJ
    refine ⟨_, hv, ?_⟩
    have ht1 : ce_txt x n I1 := ht.of (fun a j h => f1 a j (by omega))
    refine cw_m (fun _ => cd_s238_71) ?_
    by_cases hs : ce_sk x n q < n
    · have hxs := hx (ce_sk x n q)
      rw [if_pos hs, if_neg (nI_pos (by omega))]
      refine cw_cv (cw_mono (cp_154 hn hx ht1 hsk.2 g20) ?_)
      rw [ce_sk_sk hq]
      intro v I2 J2 ⟨hv, j2, f2, g20, g22, g21⟩
      refine ⟨hv, ?_⟩
      have eV : ce_pV x n (f + 1) c q V = (match ce_ww x (ce_sk x n q) (ce_we x n (ce_sk x n q) - ce_sk x n q) with
        | none => .error (1, ce_sk x n q)
        | some v => if c < v then ce_bd (ce_pU x n (ce_we x n (ce_sk x n q)) v) fun a => ce_pV x n f v a.2 (fun k => if k = v then a.1 else V k) else .error (1, ce_sk x n q)) := if_pos hs
      rw [eV]
      generalize ce_sk x n q = s at *
      generalize ce_we x n s = e at *
      have fI2 : ∀ a j, ¬ ce_xN a j → ¬ (a = 132 ∧ 5 * u ≤ j ∧ j < 5 * u + 5) → I2 a j = I0 a j := fun a j h1 h2 => by rw [f2 a j (by unfold ce_xN at h1; omega), f1 a j (by unfold ce_xN at h1; omega)]; exact fI a j h1 h2
      have fJ2 : ∀ a k, a ≠ 100 → J2 a k = J0 a k := fun a k h => (j2 a k h).trans (fJ a k h)
      have h192 : I2 100 19 = I0 100 19 := by rw [f2 _ _ (by omega), f1 _ _ (by omega)]; exact h19
      have hV2 : ∀ k, k < 5 → I2 132 (5 * u + k) = nI (V k) := fun k hk => by rw [f2 _ _ (by omega), f1 _ _ (by omega)]; exact hV k hk
      have bad : ∀ (x5 : Int32), cw L w ((cd_ci (cd_c 153 [.ref 100, .int 1, .int (I2 100 20)] (cd_mm L w I2 J2))).bind fun q => cd_go 238 85 [.ref 100, .int (nI (5 * u)), .int (nI 0), .int (nI c), .int x5] [.int q.1] q.2) (ce_q238 u I0 J0 (.error (1, s))) := fun x5 => by
        rw [cp_153, cw_bi, g20]
        refine cw_m (fun _ => cd_s238_85) ?_
        exact cw_ret ⟨fJ2, fun a j h1 h2 => (cd_up_k2 (by unfold ce_xN at h1; omega)).trans (fI2 a j h1 h2), rfl, cd_up_s⟩
      refine cw_m (fun _ => cd_s238_74) ?_
      rw [cp_237 hx hlt g21, cw_bi]
      refine cw_m (fun _ => cd_s238_76) ?_
      cases hk : ce_ww x s (e - s) with
      | none =>
        rw [if_neg (show ¬ nI c < cd_oi none from fun h => by
          have : cd_oi none = zI (-1) := rfl
          rw [this, cw_ltNZ (by omega) (by decide) (by decide)] at h
          omega)]
        exact bad _
      | some v =>
        obtain ⟨b1, b2⟩ := ce_ww_b hk
        dsimp only
        rw [show cd_oi (some v) = nI v from rfl]
        by_cases hcv : c < v
        · rw [if_pos (nI_lt hcv (by omega)), if_pos hcv, g22]
          generalize hI3 : cd_up I2 100 20 (nI e) = I3
          have f3 : ∀ a j, ¬ (a = 100 ∧ j = 20) → I3 a j = I2 a j := fun a j h => by rw [← hI3]; exact cd_up_k2 h
          have g203 : I3 100 20 = nI e := by rw [← hI3]; exact cd_up_s
          have ht3 : ce_txt x n I3 := ht1.of (fun a j h => by rw [f3 a j (by omega), f2 a j (by omega)])
          have fI3 : ∀ a j, ¬ ce_xN a j → ¬ (a = 132 ∧ 5 * u ≤ j ∧ j < 5 * u + 5) → I3 a j = I0 a j := fun a j h1 h2 => by rw [f3 a j (by unfold ce_xN at h1; omega)]; exact fI2 a j h1 h2
          have h193 : I3 100 19 = I0 100 19 := by rw [f3 _ _ (by omega)]; exact h192
          have hV3 : ∀ k, k < 5 → I3 132 (5 * u + k) = nI (V k) := fun k hk => by rw [f3 _ _ (by omega)]; exact hV2 k hk
          clear hI3
          -- the row written, the loop goes on
          have on : ∀ (I4 : Nat → Nat → Int32) (y : Int32) (b z : Nat), (∀ a j, ¬ ce_xN a j → I4 a j = I3 a j) → I4 100 20 = nI z → I4 100 19 = I3 100 19 → ce_pU x n e v = .ok (b, z) → y = nI b → cw L w (cd_go 238 67 [.ref 100, .int (nI (5 * u)), .int (nI 0), .int (nI v), .int (nI v)] [] (cd_mm L w (cd_up I4 132 (5 * u + v) y) J2)) (ce_q238 u I0 J0 (ce_bd (ce_pU x n e v) fun a => ce_pV x n f v a.2 (fun k => if k = v then a.1 else V k))) := fun I4 y b z f4 g4 g194 hU hy => by
            subst hy
            rw [hU]
            refine ih v z (fun k => if k = v then b else V k) _ J2 _ ((ce_pU_ok hwe).1 hU).2.1 (by omega) b2 (ht3.of (fun a j h => (cd_up_a (by omega)).trans (f4 a j (by unfold ce_xN; omega)))) ((cd_up_a (by decide)).trans g4) (fun k hk => ?_) (fun a j h1 h2 => ?_) fJ2 ?_
            · by_cases hkv : k = v
              · subst hkv
                rw [cd_up_s]
                rw [if_pos rfl]
              · rw [cd_up_k (by omega), f4 _ _ (by unfold ce_xN; omega), hV3 k hk]
                rw [if_neg hkv]
            · rw [cd_up_k2 (by omega), f4 a j h1]
              exact fI3 a j h1 h2
            · rw [cd_up_a (by decide), g194]
              exact h193
          have off : ∀ (I4 : Nat → Nat → Int32) (y : Int32) (g p : Nat), (∀ a j, ¬ ce_xN a j → I4 a j = I3 a j) → I4 100 19 = nI p → ce_pU x n e v = .error (g, p) → cw L w (cd_go 238 67 [.ref 100, .int (nI (5 * u)), .int (nI g), .int (nI v), .int (nI v)] [] (cd_mm L w (cd_up I4 132 (5 * u + v) y) J2)) (ce_q238 u I0 J0 (ce_bd (ce_pU x n e v) fun a => ce_pV x n f v a.2 (fun k => if k = v then a.1 else V k))) := fun I4 y g p f4 g194 hU => by
            rw [hU]
            have hg := ((ce_pU_ok hwe).2 hU).1
            refine cw_mono (cp_238x (by omega)) ?_
            intro v5 I5 J5 ⟨hv5, hI5, hJ5⟩
            subst hI5 hJ5
            exact ⟨fJ2, fun a j h1 h2 => by
              rw [cd_up_k2 (by omega), f4 a j h1]
              exact fI3 a j h1 h2, hv5, (cd_up_a (by decide)).trans g194⟩
          have q1 : nI (5 * u) + nI v = nI (5 * u + v) := nI_add _ _
          have q2 : cd_in (nI (5 * u + v)) 20 = true := cd_inN (by omega) (by decide)
          have q3 : (nI (5 * u + v)).toNatClampNeg = 5 * u + v := nI_clamp (by omega)
          by_cases h1 : v = 1
          · have ev : ce_pU x n e v = ce_bd (ce_num x n 1 21 e) fun a => .ok (a.1, a.2.2) := if_pos h1
            rw [if_pos (show nI v = 1 by rw [h1]; rfl)]
            refine cp_157k hn hx ht3 hwe g203 1 21 (by decide) (by decide) rfl rfl (fun I5 b s5 z n5 f5 g523 g24 g520 g519 => ?_) (fun I5 g p n5 hg f5 g519 => ?_)
            · refine cw_m (fun _ => cd_s238_99) ?_
              rw [if_neg (show ¬ (2 : Int32) < nI v by rw [h1]; decide), q1, if_pos q2, q3]
              exact on I5 _ b z f5 g520 g519 (by rw [ev, n5]; rfl) g523
            · refine cw_m (fun _ => cd_s238_99) ?_
              rw [if_neg (show ¬ (2 : Int32) < nI v by rw [h1]; decide), q1, if_pos q2, q3]
              exact off I5 _ g p f5 g519 (by rw [ev, n5]; rfl)
          · rw [if_neg (show ¬ nI v = 1 from fun h => h1 ((nI_eq (by omega) (by decide)).mp (h.trans (show (1 : Int32) = nI 1 from rfl))))]
            by_cases h2 : v = 2
            · have ev : ce_pU x n e v = ce_bd (ce_num x n 0 100 e) fun a => .ok (a.1, a.2.2) := (if_neg h1).trans (if_pos h2)
              rw [if_pos (show nI v = 2 by rw [h2]; rfl)]
              refine cp_157k hn hx ht3 hwe g203 0 100 (by decide) (by decide) rfl rfl (fun I5 b s5 z n5 f5 g523 g24 g520 g519 => ?_) (fun I5 g p n5 hg f5 g519 => ?_)
              · refine cw_m (fun _ => cd_s238_107) ?_
                rw [if_neg (show ¬ (2 : Int32) < nI v by rw [h2]; decide), q1, if_pos q2, q3]
                exact on I5 _ b z f5 g520 g519 (by rw [ev, n5]; rfl) g523
              · refine cw_m (fun _ => cd_s238_107) ?_
                rw [if_neg (show ¬ (2 : Int32) < nI v by rw [h2]; decide), q1, if_pos q2, q3]
                exact off I5 _ g p f5 g519 (by rw [ev, n5]; rfl)
            · have ev : ce_pU x n e v = .ok (1, e) := (if_neg h1).trans (if_neg h2)
              rw [if_neg (show ¬ nI v = 2 from fun h => h2 ((nI_eq (by omega) (by decide)).mp (h.trans (show (2 : Int32) = nI 2 from rfl)))), if_pos (show (2 : Int32) < nI v from nI_lt (a := 2) (by omega) (by omega)), q1, if_pos q2, q3]
              exact on I3 1 1 e (fun _ _ _ => rfl) g203 rfl ev rfl
        · rw [if_neg (nI_nlt (by omega) (by omega)), if_neg hcv]
          exact bad _
    · rw [if_neg hs, if_pos (show (-1 : Int32) < 0 by decide)]
      have e : ce_pV x n (f + 1) c q V = .ok V := if_neg hs
      rw [e]
      exact cw_ret ⟨fJ, fun a j h1 h2 => (f1 a j (by unfold ce_xN at h1; omega)).trans (fI a j h1 h2), rfl, (f1 _ _ (by omega)).trans h19, fun k hk => (f1 _ _ (by omega)).trans (hV k hk)⟩
theorem cp_238 (hn : n ≤ 500) (hx : ∀ k, x k < 256) {u : Nat} (hu : u < 4) (ht : ce_txt x n I) (h20 : I 100 20 = nI 0) (h54 : I 100 54 = nI u) : cw L w (cd_c 238 [.ref 100] (cd_mm L w I J)) (ce_q238 u I J (ce_want x n)) := by
  have hsk : ce_sk x n 0 ≤ n := (ce_end_b (p := fun k => !decide (x k = 32)) (Nat.zero_le n)).2.1
  have hwe : ce_we x n (ce_sk x n 0) ≤ n := (ce_end_b (p := fun k => !ce_let (x k)) hsk).2.1
  have hlt := ce_we_let (x := x) hsk
  refine cw_c (l := [_, _, _, _, _]) rfl rfl ?_
  refine cw_m (fun _ => cd_s238_0) ?_
  rw [h54, show (5 : Int32) = nI 5 from rfl, pk_mul]
  refine cw_cv (cw_mono (cp_154 hn hx ht (Nat.zero_le n) h20) ?_)
  intro v I2 J2 ⟨hv, j2, f2, g20, g22, g21⟩
  refine ⟨hv, ?_⟩
  have ew : ce_want x n = if ce_wdr x (ce_sk x n 0) (ce_we x n (ce_sk x n 0) - ce_sk x n 0) [109, 111, 111, 114] then ce_bd (ce_num x n 0 65 (ce_we x n (ce_sk x n 0))) fun a => ce_pV x n 5 0 a.2.2 (ce_V0 a.1) else .error (1, ce_sk x n 0) := rfl
  generalize ce_sk x n 0 = s at *
  generalize ce_we x n s = e at *
  have c1 := ce_cmp hx hlt [109, 111, 111, 114] (by decide) (by decide)
  refine cw_m (fun _ => cd_s238_7) ?_
  rw [cp_155_room, cw_bl, g21]
  refine cw_m (fun _ => cd_s238_14) ?_
  by_cases h1 : ce_wdr x s (e - s) [109, 111, 111, 114] = true
  · rw [if_pos h1] at ew
    rw [if_pos (c1.mpr h1), g22]
    generalize hI3 : cd_up I2 100 20 (nI e) = I3
    have f3 : ∀ a j, ¬ ce_xN a j → I3 a j = I a j := fun a j h => by rw [← hI3, cd_up_k2 (by unfold ce_xN at h; omega), f2 a j (by unfold ce_xN at h; omega)]
    have g203 : I3 100 20 = nI e := by rw [← hI3]; exact cd_up_s
    have h193 : I3 100 19 = I 100 19 := by rw [← hI3, cd_up_k (by decide)]; exact f2 _ _ (by omega)
    have ht3 : ce_txt x n I3 := ht.of (fun a j h => f3 a j (by unfold ce_xN; omega))
    clear hI3
    have q1 : nI (5 * u) + 1 = nI (5 * u + 1) := nI_1 _
    have q2 : nI (5 * u) + 2 = nI (5 * u + 2) := nI_add _ 2
    have q3 : nI (5 * u) + 3 = nI (5 * u + 3) := nI_add _ 3
    have q4 : nI (5 * u) + 4 = nI (5 * u + 4) := nI_add _ 4
    have y : ∀ (I5 : Nat → Nat → Int32) a j, ¬ (a = 132 ∧ 5 * u ≤ j ∧ j < 5 * u + 5) → cd_up (cd_up (cd_up (cd_up (cd_up I5 132 (5 * u) (I5 100 23)) 132 (5 * u + 1) 5) 132 (5 * u + 2) 99) 132 (5 * u + 3) 0) 132 (5 * u + 4) 0 a j = I5 a j := fun I5 a j h => by
      rw [cd_up_k2 (by omega), cd_up_k2 (by omega), cd_up_k2 (by omega), cd_up_k2 (by omega), cd_up_k2 (by omega)]
    refine cp_157k hn hx ht3 hwe g203 0 65 (by decide) (by decide) rfl rfl (fun I5 b s5 z n5 f5 g523 g24 g520 g519 => ?_) (fun I5 g p n5 hg f5 g519 => ?_)
    · rw [ew, show (ce_bd (ce_num x n 0 65 e) fun a => ce_pV x n 5 0 a.2.2 (ce_V0 a.1)) = ce_pV x n 5 0 z (ce_V0 b) by rw [n5]; rfl]
      have hb := ce_num_b hwe n5
      refine cw_m (fun _ => cd_s238_30) ?_
      rw [q1, q2, q3, q4, if_pos (cd_inN (by omega) (by decide)), if_pos (cd_inN (by omega) (by decide)), if_pos (cd_inN (by omega) (by decide)), if_pos (cd_inN (by omega) (by decide)), if_pos (cd_inN (by omega) (by decide)), nI_clamp (by omega), nI_clamp (by omega), nI_clamp (by omega), nI_clamp (by omega), nI_clamp (by omega)]
      refine cp_238l hn hx hu 5 0 z (ce_V0 b) _ J2 .null hb.2.2.2.1 (by omega) (by omega) (ht.of (fun a j h => ?_)) ((y I5 100 20 (by omega)).trans g520) (fun k hk => ?_) (fun a j h1 h2 => ?_) j2 ?_
      · rw [y I5 a j (by omega), f5 a j (by unfold ce_xN; omega)]
        exact f3 a j (by unfold ce_xN; omega)
      · match k, hk with
        | 0, _ => rw [cd_up_k (by omega), cd_up_k (by omega), cd_up_k (by omega), cd_up_k (by omega)]; exact cd_up_s.trans g523
        | 1, _ => rw [cd_up_k (by omega), cd_up_k (by omega), cd_up_k (by omega), cd_up_s]; rfl
        | 2, _ => rw [cd_up_k (by omega), cd_up_k (by omega), cd_up_s]; rfl
        | 3, _ => rw [cd_up_k (by omega), cd_up_s]; rfl
        | 4, _ => rw [cd_up_s]; rfl
      · rw [y I5 a j h2, f5 a j h1]
        exact f3 a j h1
      · rw [y I5 100 19 (by omega), g519]
        exact h193
    · have hg2 := (ce_num_e hwe n5).1
      rw [ew, show (ce_bd (ce_num x n 0 65 e) fun a => ce_pV x n 5 0 a.2.2 (ce_V0 a.1)) = .error (g, p) by rw [n5]; rfl]
      refine cw_m (fun _ => cd_s238_30) ?_
      rw [q1, q2, q3, q4, if_pos (cd_inN (by omega) (by decide)), if_pos (cd_inN (by omega) (by decide)), if_pos (cd_inN (by omega) (by decide)), if_pos (cd_inN (by omega) (by decide)), if_pos (cd_inN (by omega) (by decide)), nI_clamp (by omega), nI_clamp (by omega), nI_clamp (by omega), nI_clamp (by omega), nI_clamp (by omega)]
      refine cw_mono (cp_238x (by omega)) ?_
      intro v5 I6 J6 ⟨hv5, hI6, hJ6⟩
      subst hI6 hJ6
      exact ⟨j2, fun a j h1 h2 => by
        rw [y I5 a j h2, f5 a j h1]
        exact f3 a j h1, hv5, (y I5 100 19 (by omega)).trans g519⟩
  · rw [if_neg h1] at ew
    rw [if_neg (fun q => h1 (c1.mp q)), cp_153, cw_bi, g20, ew]
    refine cw_m (fun _ => cd_s238_21) ?_
    exact cw_ret ⟨j2, fun a j h1 h2 => by rw [cd_up_k2 (by unfold ce_xN at h1; omega)]; exact f2 a j (by unfold ce_xN at h1; omega), rfl, cd_up_s⟩
/-- the rest, a want told -/
def ceSW (Y : ce_Y) (V : Nat → Nat) : ce_Y := (Y.1, 0, -1, ceU Y + 1, (fun i k => if i = ceU Y then V k else ceW Y i k), Y.2.2.2.2.2)
theorem cp_239n (hM : ce_M D S Y I) (hN : ceN Y ≤ 500) (h : 60 < ceN Y) : cw L w (cd_c 239 [.ref 100] (cd_mm L w I J)) (ce_post (.int (-1003)) D S Y I J) := by
  refine cw_c (l := [_, _]) rfl rfl ?_
  refine cw_m (fun _ => cd_s239_0) ?_
  rw [hM.2.2.2.2.1.1, if_pos (show (60 : Int32) < nI (ceN Y) from nI_lt (a := 60) h (by omega))]
  exact cw_ret ⟨rfl, hM, fun _ _ _ => rfl, fun _ _ _ => rfl⟩
theorem cp_239f (hM : ce_M D S Y I) (h : ceN Y ≤ 60) (hu : ceU Y = 4) : cw L w (cd_c 239 [.ref 100] (cd_mm L w I J)) (ce_post (.int (-1004)) D S Y I J) := by
  refine cw_c (l := [_, _]) rfl rfl ?_
  refine cw_m (fun _ => cd_s239_0) ?_
  rw [hM.2.2.2.2.1.1, if_neg (show ¬ (60 : Int32) < nI (ceN Y) from nI_nlt (a := 60) (by omega) (by omega)), hM.2.2.2.2.1.2.2.1, if_pos (show nI (ceU Y) = 4 by rw [hu]; rfl)]
  exact cw_ret ⟨rfl, hM, fun _ _ _ => rfl, fun _ _ _ => rfl⟩
theorem cp_239 (hK : ce_ok D S Y) (hM : ce_M D S Y I) (h : ceN Y ≤ 60) (hu : ceU Y < 4) : cw L w (cd_c 239 [.ref 100] (cd_mm L w I J)) (fun v I1 J1 => match ce_want (ceX Y) (ceN Y) with
    | .error (f, p) => ce_post (.int (zI (-10 - (f : Int)))) D S (ceSF Y (p : Int)) I J v I1 J1
    | .ok V => ce_post (.int (nI (ceU Y))) D S (ceSW Y V) I J v I1 J1) := by
  have hx := hK.2.2.2.1
  have h8 := hK.1.1.1
  have h12 := hK.1.1.2.2.1
  obtain ⟨m1, m2, m3, m4, ⟨y1, y2, y3, y4⟩, yX, yW, yE, yB⟩ := hM
  refine cw_c (l := [_, _]) rfl rfl ?_
  refine cw_m (fun _ => cd_s239_0) ?_
  rw [y1, if_neg (show ¬ (60 : Int32) < nI (ceN Y) from nI_nlt (a := 60) (by omega) (by omega)), y3, if_neg (show ¬ nI (ceU Y) = 4 from fun h => by
    have := (nI_eq (by omega) (by decide)).mp (h.trans (show (4 : Int32) = nI 4 from rfl))
    omega)]
  generalize hI0 : cd_up (cd_up I 100 19 (-1)) 100 20 0 = I0
  have g : ∀ a j, ¬ (a = 100 ∧ (j = 19 ∨ j = 20)) → I0 a j = I a j := fun a j h => by
    rw [← hI0, cd_up_k2 (by omega), cd_up_k2 (by omega)]
  have g19 : I0 100 19 = -1 := by rw [← hI0]; rfl
  have g20 : I0 100 20 = nI 0 := by rw [← hI0]; rfl
  clear hI0
  have ht : ce_txt (ceX Y) (ceN Y) I0 := ⟨(g _ _ (by omega)).trans y1, fun j hj => (g _ _ (by omega)).trans (yX j hj)⟩
  refine cw_ci (cw_mono (cp_238 (by omega) hx hu ht g20 ((g _ _ (by omega)).trans y3)) ?_)
  intro v I1 J1 ⟨hJ, f1, hm⟩
  have hfJ : ∀ a k, a < 100 → J1 a k = J a k := fun a k h => hJ a k (by omega)
  have f2 : ∀ (I2 : Nat → Nat → Int32), (∀ a j, ¬ (a = 100 ∧ (j = 18 ∨ j = 54)) → I2 a j = I1 a j) → ∀ a j, ¬ ce_xN a j → ¬ (a = 100 ∧ (j = 18 ∨ j = 54)) → ¬ (a = 132 ∧ 5 * ceU Y ≤ j ∧ j < 5 * ceU Y + 5) → I2 a j = I a j := fun I2 hI2 a j h1 h2 h3 => by
    rw [hI2 a j h2, f1 a j h1 h3]
    exact g a j (by unfold ce_xN at h1; omega)
  cases hd : ce_want (ceX Y) (ceN Y) with
  | error a =>
    obtain ⟨f, p⟩ := a
    rw [hd] at hm
    obtain ⟨hv, g191⟩ := hm
    have hf := (ce_want_ok.2 hd).1
    refine ⟨_, hv, ?_⟩
    refine cw_m (fun _ => cd_s239_20) ?_
    rw [if_pos (show (0 : Int32) < nI f from nI_lt (a := 0) (by omega) (by omega)), show (-10 : Int32) = zI (-10) from rfl, cw_znsub]
    have f3 := f2 (cd_up I1 100 18 0) (fun a j h => cd_up_k2 (by omega))
    refine cw_ret ⟨rfl, ⟨m1.of (fun a k h1 h2 => f3 a k (by unfold ce_xN; omega) (by omega) (by omega)), m2.of (fun a k h => f3 a k (by unfold ce_xN; omega) (by omega) (by omega)), ?_, ?_, ⟨cd_up_s, (cd_up_k (by decide)).trans (g191.trans (zI_n p).symm), ?_, ?_⟩, fun j hj => absurd hj (Nat.not_lt_zero j), fun i hi k hk => ?_, fun j hj => ?_, fun i hi => ⟨?_, fun hb => ((yB i hi).2 hb).of (fun k _ => f3 _ _ (by unfold ce_xN; omega) (by omega) (by omega)) h8 h12⟩⟩, fun a k h => f3 a k (by unfold ce_xN; omega) (by omega) (by omega), hfJ⟩
    · rw [f3 _ _ (by unfold ce_xN; omega) (by omega) (by omega)]; exact m3
    · rw [f3 _ _ (by unfold ce_xN; omega) (by omega) (by omega)]; exact m4
    · rw [cd_up_k (by decide), f1 _ _ (by unfold ce_xN; omega) (by omega), g _ _ (by omega)]; exact y3
    · rw [f3 _ _ (by unfold ce_xN; omega) (by omega) (by omega)]; exact y4
    · have hi' : i < ceU Y := hi
      rw [f3 _ _ (by unfold ce_xN; omega) (by omega) (by omega)]; exact yW i hi' k hk
    · rw [f3 _ _ (by unfold ce_xN; omega) (by omega) (by omega), f3 _ _ (by unfold ce_xN; omega) (by omega) (by omega)]; exact yE j hj
    · rw [f3 _ _ (by unfold ce_xN; omega) (by omega) (by omega)]; exact (yB i hi).1
  | ok V =>
    rw [hd] at hm
    obtain ⟨hv, g191, gV⟩ := hm
    refine ⟨_, hv, ?_⟩
    have h541 : I1 100 54 = nI (ceU Y) := by rw [f1 _ _ (by unfold ce_xN; omega) (by omega), g _ _ (by omega)]; exact y3
    refine cw_m (fun _ => cd_s239_20) ?_
    rw [if_neg (show ¬ (0 : Int32) < nI 0 by decide), cd_up_s, cd_up_k (by decide), h541, nI_1, show nI (ceU Y + 1) - 1 = nI (ceU Y) from nI_pred _]
    have f3 := f2 (cd_up (cd_up I1 100 18 0) 100 54 (nI (ceU Y + 1))) (fun a j h => by rw [cd_up_k2 (by omega), cd_up_k2 (by omega)])
    refine cw_ret ⟨rfl, ⟨m1.of (fun a k h1 h2 => f3 a k (by unfold ce_xN; omega) (by omega) (by omega)), m2.of (fun a k h => f3 a k (by unfold ce_xN; omega) (by omega) (by omega)), ?_, ?_, ⟨(cd_up_k (by decide)).trans cd_up_s, ?_, cd_up_s, ?_⟩, fun j hj => absurd hj (Nat.not_lt_zero j), fun i hi k hk => ?_, fun j hj => ?_, fun i hi => ⟨?_, fun hb => ((yB i hi).2 hb).of (fun k _ => f3 _ _ (by unfold ce_xN; omega) (by omega) (by omega)) h8 h12⟩⟩, fun a k h => f3 a k (by unfold ce_xN; omega) (by omega) (by omega), hfJ⟩
    · rw [f3 _ _ (by unfold ce_xN; omega) (by omega) (by omega)]; exact m3
    · rw [f3 _ _ (by unfold ce_xN; omega) (by omega) (by omega)]; exact m4
    · rw [cd_up_k (by decide), cd_up_k (by decide), g191, g19]; rfl
    · rw [f3 _ _ (by unfold ce_xN; omega) (by omega) (by omega)]; exact y4
    · have hi' : i < ceU Y + 1 := hi
      show _ = nI (if i = ceU Y then V k else ceW Y i k)
      by_cases hie : i = ceU Y
      · subst hie
        rw [if_pos rfl, cd_up_a (by decide), cd_up_a (by decide)]
        exact gV k hk
      · rw [if_neg hie, f3 _ _ (by unfold ce_xN; omega) (by omega) (by omega)]; exact yW i (by omega) k hk
    · rw [f3 _ _ (by unfold ce_xN; omega) (by omega) (by omega), f3 _ _ (by unfold ce_xN; omega) (by omega) (by omega)]; exact yE j hj
    · rw [f3 _ _ (by unfold ce_xN; omega) (by omega) (by omega)]; exact (yB i hi).1
theorem ce_want_okY (hK : ce_ok D S Y) (hu : ceU Y < 4) : (∀ {f p}, ce_want (ceX Y) (ceN Y) = .error (f, p) → ce_ok D S (ceSF Y (p : Int)) ∧ 1 ≤ f ∧ f ≤ 5) ∧ ∀ {V}, ce_want (ceX Y) (ceN Y) = .ok V → ce_ok D S (ceSW Y V) := by
  obtain ⟨hD, hT, ⟨y1, y2, y3, y4, y5⟩, yX, yW, yE, yB⟩ := hK
  refine ⟨fun {f p} h => ?_, fun {V} h => ?_⟩
  · obtain ⟨h1, h2⟩ := ce_want_ok.2 h
    exact ⟨⟨hD, hT, ⟨Nat.zero_le _, by show (-1 : Int) ≤ (p : Int); omega, by show (p : Int) ≤ 500; omega, y4, y5⟩, yX, yW, yE, yB⟩, h1⟩
  · have hV := ce_want_ok.1 h
    refine ⟨hD, hT, ⟨Nat.zero_le _, by show (-1 : Int) ≤ -1; decide, by show (-1 : Int) ≤ 500; decide, by show ceU Y + 1 ≤ 4; omega, y5⟩, yX, fun i hi => ?_, yE, yB⟩
    have hi' : i < ceU Y + 1 := hi
    have e : ∀ k, ceW (ceSW Y V) i k = if i = ceU Y then V k else ceW Y i k := fun _ => rfl
    rw [e, e, e, e, e]
    by_cases hie : i = ceU Y
    · rw [if_pos hie, if_pos hie, if_pos hie, if_pos hie, if_pos hie]; exact hV
    · rw [if_neg hie, if_neg hie, if_neg hie, if_neg hie, if_neg hie]; exact yW i (by omega)
end CFP
