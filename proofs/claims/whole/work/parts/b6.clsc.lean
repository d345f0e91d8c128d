/-! ===== the class: a thing, a light, a bar ===== -/
/-- a plan half told -/
def cf_PB (D : cd_D) (S : cd_S) (p : Nat) (I : Nat → Nat → Int32) (J : Nat → Nat → Int64) : Prop := cf_P D p I J ∧ cf_S D S (p + 13) I ∧ I p 3 = nI (D 0 3) ∧ I p 18 = nI (D 0 18)
def cf_fp (p : Nat) (I I1 : Nat → Nat → Int32) : Prop := ∀ a k, ¬ (a = 3 ∧ 2 ≤ k) → ¬ (p ≤ a ∧ a ≤ p + 16) → I1 a k = I a k
def cf_pq (x : Nat → Nat) (n p : Nat) (I : Nat → Nat → Int32) (J : Nat → Nat → Int64) (r : ce_R) : Option Value → (Nat → Nat → Int32) → (Nat → Nat → Int64) → Prop := fun v I1 J1 => v = none ∧ cf_fp p I I1 ∧ (∀ a j, a ≠ p + 10 → J1 a j = J a j) ∧ match r with
  | .ok (e, D1, S1) => cf_K x n e I1 ∧ cf_PB D1 S1 p I1 J1
  | .error (f, q) => cf_Fl f q I1
theorem cf_PB.of3 {D : cd_D} {S : cd_S} {p : Nat} {I I1 : Nat → Nat → Int32} {J : Nat → Nat → Int64} (hp : p = 66 ∨ p = 83) (h : cf_PB D S p I J) (g : cf_f3 I I1) : cf_PB D S p I1 J := ⟨h.1.of (fun a k h1 h2 => g a k (by omega)) (fun _ => rfl), h.2.1.of (fun a k h1 h2 => g a k (by omega)), (g _ _ (by omega)).trans h.2.2.1, (g _ _ (by omega)).trans h.2.2.2⟩
theorem cf_f3.rf {I : Nat → Nat → Int32} : cf_f3 I I := fun _ _ _ => rfl
theorem cf_f3.up {I I1 : Nat → Nat → Int32} (h : cf_f3 I I1) (a k : Nat) (v : Int32) : cf_f3 (cd_up I a k v) (cd_up I1 a k v) := fun b j hb => by
  unfold cd_up
  by_cases h1 : b = a
  · rw [if_pos h1, if_pos h1]
    split
    · rfl
    · exact h b j hb
  · rw [if_neg h1, if_neg h1]
    exact h b j hb
theorem cf_K.up {x : Nat → Nat} {n q : Nat} {I : Nat → Nat → Int32} (h : cf_K x n q I) {a k : Nat} {v : Int32} (ha : 66 ≤ a) : cf_K x n q (cd_up I a k v) := h.of (fun b j hb => cd_up_a (by omega))
theorem cf_Fl.up {f p : Nat} {I : Nat → Nat → Int32} (h : cf_Fl f p I) {a k : Nat} {v : Int32} (ha : 66 ≤ a) : cf_Fl f p (cd_up I a k v) := h.of (fun b hb => cd_up_a (by omega))
section CHE
variable {L : Nat} {w : Bool} {I : Nat → Nat → Int32} {J : Nat → Nat → Int64} {D : cd_D} {S : cd_S}
variable {x : Nat → Nat} {n q p g : Nat}
/-- a fault runs on to the end -/
def cf_pe (p f g : Nat) (I : Nat → Nat → Int32) (J : Nat → Nat → Int64) : Option Value → (Nat → Nat → Int32) → (Nat → Nat → Int64) → Prop := fun v I1 J1 => v = none ∧ cf_fp p I I1 ∧ (∀ a j, a ≠ p + 10 → J1 a j = J a j) ∧ cf_Fl f g I1
theorem cf_fp_up {I1 : Nat → Nat → Int32} {a k : Nat} {v : Int32} (h : cf_fp p (cd_up I a k v) I1) (ha : p ≤ a ∧ a ≤ p + 16) : cf_fp p I I1 := fun b j h1 h2 => (h b j h1 h2).trans (cd_up_a (by omega))
theorem cp_25t (hp : p = 66 ∨ p = 83) {t f : Nat} (ht : t < 8) (hF : cf_Fl f g I) {x2 x4 : Int32} : cw L w (cd_go 25 32 [.ref p, .ref 3, .int x2, .int (nI t), .int x4] [] (cd_mm L w I J)) (cf_pe p f g I J) := by
  have hin : cd_in (nI t) 8 = true := cd_inN ht (by decide)
  refine cw_m (fun _ => cd_s25_32 hp) ?_
  have F1 := hF.up (a := p + 14) (k := t) (v := x4) (by omega)
  rw [if_pos hin, nI_clamp (by omega), cp_23f F1, cw_bi]
  refine cw_m (fun _ => cd_s25_45 hp) ?_
  have F2 := F1.up (a := p + 1) (k := t) (v := 1) (by omega)
  rw [if_pos hin, nI_clamp (by omega), cp_23f F2, cw_bi]
  refine cw_m (fun _ => cd_s25_53 hp) ?_
  have F3 := F2.up (a := p + 2) (k := t) (v := 1) (by omega)
  rw [if_pos hin, nI_clamp (by omega), cp_23f F3, cw_bi]
  refine cw_m (fun _ => cd_s25_61 hp) ?_
  have F4 := F3.up (a := p + 3) (k := t) (v := 0) (by omega)
  rw [if_pos hin, nI_clamp (by omega), cp_23f F4, cw_bi]
  refine cw_m (fun _ => cd_s25_69 hp) ?_
  have F5 := F4.up (a := p + 4) (k := t) (v := 1) (by omega)
  rw [if_pos hin, nI_clamp (by omega)]
  exact cw_ret ⟨rfl, fun a k h1 h2 => by rw [cd_up_a (by omega), cd_up_a (by omega), cd_up_a (by omega), cd_up_a (by omega), cd_up_a (by omega), cd_up_a (by omega)], fun _ _ _ => rfl, F5.up (by omega)⟩
theorem cp_25t2 (hp : p = 66 ∨ p = 83) {t f : Nat} (ht : t < 8) (hF : cf_Fl f g I) {x2 x4 s2 : Int32} : cw L w (cd_go 25 45 [.ref p, .ref 3, .int x2, .int (nI t), .int x4] [.int s2, .int (nI t), .ref (p + 1)] (cd_mm L w I J)) (cf_pe p f g I J) := by
  have hin : cd_in (nI t) 8 = true := cd_inN ht (by decide)
  refine cw_m (fun _ => cd_s25_45 hp) ?_
  have F2 := hF.up (a := p + 1) (k := t) (v := s2) (by omega)
  rw [if_pos hin, nI_clamp (by omega), cp_23f F2, cw_bi]
  refine cw_m (fun _ => cd_s25_53 hp) ?_
  have F3 := F2.up (a := p + 2) (k := t) (v := 1) (by omega)
  rw [if_pos hin, nI_clamp (by omega), cp_23f F3, cw_bi]
  refine cw_m (fun _ => cd_s25_61 hp) ?_
  have F4 := F3.up (a := p + 3) (k := t) (v := 0) (by omega)
  rw [if_pos hin, nI_clamp (by omega), cp_23f F4, cw_bi]
  refine cw_m (fun _ => cd_s25_69 hp) ?_
  have F5 := F4.up (a := p + 4) (k := t) (v := 1) (by omega)
  rw [if_pos hin, nI_clamp (by omega)]
  exact cw_ret ⟨rfl, fun a k h1 h2 => by rw [cd_up_a (by omega), cd_up_a (by omega), cd_up_a (by omega), cd_up_a (by omega), cd_up_a (by omega)], fun _ _ _ => rfl, F5.up (by omega)⟩
theorem cp_25t3 (hp : p = 66 ∨ p = 83) {t f : Nat} (ht : t < 8) (hF : cf_Fl f g I) {x2 x4 s2 : Int32} : cw L w (cd_go 25 53 [.ref p, .ref 3, .int x2, .int (nI t), .int x4] [.int s2, .int (nI t), .ref (p + 2)] (cd_mm L w I J)) (cf_pe p f g I J) := by
  have hin : cd_in (nI t) 8 = true := cd_inN ht (by decide)
  refine cw_m (fun _ => cd_s25_53 hp) ?_
  have F3 := hF.up (a := p + 2) (k := t) (v := s2) (by omega)
  rw [if_pos hin, nI_clamp (by omega), cp_23f F3, cw_bi]
  refine cw_m (fun _ => cd_s25_61 hp) ?_
  have F4 := F3.up (a := p + 3) (k := t) (v := 0) (by omega)
  rw [if_pos hin, nI_clamp (by omega), cp_23f F4, cw_bi]
  refine cw_m (fun _ => cd_s25_69 hp) ?_
  have F5 := F4.up (a := p + 4) (k := t) (v := 1) (by omega)
  rw [if_pos hin, nI_clamp (by omega)]
  exact cw_ret ⟨rfl, fun a k h1 h2 => by rw [cd_up_a (by omega), cd_up_a (by omega), cd_up_a (by omega), cd_up_a (by omega)], fun _ _ _ => rfl, F5.up (by omega)⟩
theorem cp_25t4 (hp : p = 66 ∨ p = 83) {t f : Nat} (ht : t < 8) (hF : cf_Fl f g I) {x2 x4 s2 : Int32} : cw L w (cd_go 25 61 [.ref p, .ref 3, .int x2, .int (nI t), .int x4] [.int s2, .int (nI t), .ref (p + 3)] (cd_mm L w I J)) (cf_pe p f g I J) := by
  have hin : cd_in (nI t) 8 = true := cd_inN ht (by decide)
  refine cw_m (fun _ => cd_s25_61 hp) ?_
  have F4 := hF.up (a := p + 3) (k := t) (v := s2) (by omega)
  rw [if_pos hin, nI_clamp (by omega), cp_23f F4, cw_bi]
  refine cw_m (fun _ => cd_s25_69 hp) ?_
  have F5 := F4.up (a := p + 4) (k := t) (v := 1) (by omega)
  rw [if_pos hin, nI_clamp (by omega)]
  exact cw_ret ⟨rfl, fun a k h1 h2 => by rw [cd_up_a (by omega), cd_up_a (by omega), cd_up_a (by omega)], fun _ _ _ => rfl, F5.up (by omega)⟩
theorem cp_25t5 (hp : p = 66 ∨ p = 83) {t f : Nat} (ht : t < 8) (hF : cf_Fl f g I) {x2 x4 s2 : Int32} : cw L w (cd_go 25 69 [.ref p, .ref 3, .int x2, .int (nI t), .int x4] [.int s2, .int (nI t), .ref (p + 4)] (cd_mm L w I J)) (cf_pe p f g I J) := by
  have hin : cd_in (nI t) 8 = true := cd_inN ht (by decide)
  refine cw_m (fun _ => cd_s25_69 hp) ?_
  have F5 := hF.up (a := p + 4) (k := t) (v := s2) (by omega)
  rw [if_pos hin, nI_clamp (by omega)]
  exact cw_ret ⟨rfl, fun a k h1 h2 => by rw [cd_up_a (by omega), cd_up_a (by omega)], fun _ _ _ => rfl, F5.up (by omega)⟩
theorem cf_PB_T (hp : p = 66 ∨ p = 83) (h : cf_PB D S p I J) {t c a b r e : Nat} (ht : D 0 0 = t) : cf_PB (ce_aT D a b r e) (cd_up S 1 (D 0 0) c) p (cd_up (cd_up (cd_up (cd_up (cd_up (cd_up I (p + 14) t (nI c)) (p + 1) t (nI a)) (p + 2) t (nI b)) (p + 3) t (nI r)) (p + 4) t (nI e)) p 0 (nI (t + 1))) J := by
  obtain ⟨⟨⟨a1, a2, a3, a4, a5⟩, hb, hc, hd⟩, ⟨⟨s1, s2⟩, s3, s4⟩, b3, b18⟩ := h
  generalize hX : cd_up (cd_up (cd_up (cd_up (cd_up (cd_up I (p + 14) t (nI c)) (p + 1) t (nI a)) (p + 2) t (nI b)) (p + 3) t (nI r)) (p + 4) t (nI e)) p 0 (nI (t + 1)) = X
  have xo : ∀ u k, u ≠ p + 14 → u ≠ p + 1 → u ≠ p + 2 → u ≠ p + 3 → u ≠ p + 4 → ¬ (u = p ∧ k = 0) → X u k = I u k := fun u k q1 q2 q3 q4 q5 q6 => by rw [← hX, cd_up_k2 q6, cd_up_a q5, cd_up_a q4, cd_up_a q3, cd_up_a q2, cd_up_a q1]
  have x0 : X p 0 = nI (t + 1) := by rw [← hX, cd_up_s]
  have x14 : ∀ k, X (p + 14) k = if k = t then nI c else I (p + 14) k := fun k => by
    rw [← hX, cd_up_k2 (by omega), cd_up_a (by omega), cd_up_a (by omega), cd_up_a (by omega), cd_up_a (by omega), cw_uu, if_pos rfl]
  have x1 : ∀ k, X (p + 1) k = if k = t then nI a else I (p + 1) k := fun k => by
    rw [← hX, cd_up_k2 (by omega), cd_up_a (by omega), cd_up_a (by omega), cd_up_a (by omega), cw_uu, if_pos rfl, cd_up_a (by omega)]
  have x2 : ∀ k, X (p + 2) k = if k = t then nI b else I (p + 2) k := fun k => by
    rw [← hX, cd_up_k2 (by omega), cd_up_a (by omega), cd_up_a (by omega), cw_uu, if_pos rfl, cd_up_a (by omega), cd_up_a (by omega)]
  have x3 : ∀ k, X (p + 3) k = if k = t then nI r else I (p + 3) k := fun k => by
    rw [← hX, cd_up_k2 (by omega), cd_up_a (by omega), cw_uu, if_pos rfl, cd_up_a (by omega), cd_up_a (by omega), cd_up_a (by omega)]
  have x4 : ∀ k, X (p + 4) k = if k = t then nI e else I (p + 4) k := fun k => by
    rw [← hX, cd_up_k2 (by omega), cw_uu, if_pos rfl, cd_up_a (by omega), cd_up_a (by omega), cd_up_a (by omega), cd_up_a (by omega)]
  clear hX
  have e00 : ce_aT D a b r e 0 0 = t + 1 := by rw [← ht]; rfl
  have er : ∀ (m : Nat) (k v : Nat), (if k = t then nI v else nI m) = nI (if k = t then v else m) := fun m k v => by split <;> rfl
  have d1 : ∀ k, ce_aT D a b r e 1 k = if k = t then a else D 1 k := fun k => by rw [← ht]; rfl
  have d2 : ∀ k, ce_aT D a b r e 2 k = if k = t then b else D 2 k := fun k => by rw [← ht]; rfl
  have d3 : ∀ k, ce_aT D a b r e 3 k = if k = t then r else D 3 k := fun k => by rw [← ht]; rfl
  have d4 : ∀ k, ce_aT D a b r e 4 k = if k = t then e else D 4 k := fun k => by rw [← ht]; rfl
  have dS : ∀ k, cd_up S 1 (D 0 0) c 1 k = if k = t then c else S 1 k := fun k => by rw [← ht]; rfl
  refine ⟨⟨⟨by rw [x0, e00], (xo _ _ (by omega) (by omega) (by omega) (by omega) (by omega) (by omega)).trans a2, (xo _ _ (by omega) (by omega) (by omega) (by omega) (by omega) (by omega)).trans a3, (xo _ _ (by omega) (by omega) (by omega) (by omega) (by omega) (by omega)).trans a4, (xo _ _ (by omega) (by omega) (by omega) (by omega) (by omega) (by omega)).trans a5⟩, fun u hu => ?_, fun k hk => ?_, fun k hk => ?_⟩, ⟨⟨(xo _ _ (by omega) (by omega) (by omega) (by omega) (by omega) (by omega)).trans s1, (xo _ _ (by omega) (by omega) (by omega) (by omega) (by omega) (by omega)).trans s2⟩, fun u hu => ?_, fun k hk => ?_⟩, (xo _ _ (by omega) (by omega) (by omega) (by omega) (by omega) (by omega)).trans b3, (xo _ _ (by omega) (by omega) (by omega) (by omega) (by omega) (by omega)).trans b18⟩
  · rw [e00] at hu
    rw [x1, x2, x3, x4, d1, d2, d3, d4]
    by_cases hut : u = t
    · rw [if_pos hut, if_pos hut, if_pos hut, if_pos hut, if_pos hut, if_pos hut, if_pos hut, if_pos hut]
      exact ⟨rfl, rfl, rfl, rfl⟩
    · rw [if_neg hut, if_neg hut, if_neg hut, if_neg hut, if_neg hut, if_neg hut, if_neg hut, if_neg hut]
      exact hb u (by omega)
  · have := hc k hk
    rw [xo (p + 5) k (by omega) (by omega) (by omega) (by omega) (by omega) (by omega), xo (p + 6) k (by omega) (by omega) (by omega) (by omega) (by omega) (by omega), xo (p + 7) k (by omega) (by omega) (by omega) (by omega) (by omega) (by omega), xo (p + 8) k (by omega) (by omega) (by omega) (by omega) (by omega) (by omega), xo (p + 9) k (by omega) (by omega) (by omega) (by omega) (by omega) (by omega)]
    exact this
  · have := hd k hk
    rw [xo (p + 11) k (by omega) (by omega) (by omega) (by omega) (by omega) (by omega), xo (p + 12) k (by omega) (by omega) (by omega) (by omega) (by omega) (by omega)]
    exact this
  · rw [e00] at hu
    rw [show p + 13 + 1 = p + 14 by omega, x14, dS]
    by_cases hut : u = t
    · rw [if_pos hut, if_pos hut]
    · rw [if_neg hut, if_neg hut]
      exact s3 u (by omega)
  · have := s4 k hk
    rw [xo (p + 13 + 2) k (by omega) (by omega) (by omega) (by omega) (by omega) (by omega), xo (p + 13 + 3) k (by omega) (by omega) (by omega) (by omega) (by omega) (by omega)]
    exact this
theorem cf_pe_q {f : Nat} {r : ce_R} {I0 : Nat → Nat → Int32} {J0 : Nat → Nat → Int64} (h0 : cf_fp p I0 I) (hj : ∀ a j, a ≠ p + 10 → J a j = J0 a j) (hr : r = .error (f, g)) {t : Option cd_Ret} (h : cw L w t (cf_pe p f g I J)) : cw L w t (cf_pq x n p I0 J0 r) := by
  refine cw_mono h ?_
  intro v I1 J1 ⟨hv, f1, fj, hf⟩
  rw [hr]
  exact ⟨hv, fun a k h1 h2 => (f1 a k h1 h2).trans (h0 a k h1 h2), fun a j h => (fj a j h).trans (hj a j h), hf⟩
theorem cp_25x (hp : p = 66 ∨ p = 83) (hK : cf_K x n q I) (hP : cf_PB D S p I J) (h8 : D 0 0 = 8) {s : Nat} : cw L w (cd_c 25 [.ref p, .ref 3, .int (nI s)] (cd_mm L w I J)) (cf_pq x n p I J (.error (4, s))) := by
  refine cw_c (l := [.ref p, .ref 3, .int (nI s), .null, .null]) (by rcases hp with rfl | rfl <;> rfl) (by rcases hp with rfl | rfl <;> rfl) ?_
  refine cw_m (fun _ => cd_s25_0 hp) ?_
  rw [hP.1.1.1, h8, if_neg (show ¬ nI 8 < 8 by decide), show (4 : Int32) = nI 4 from rfl, cp_22 hK.2.1.1, cw_bv]
  refine cw_m (fun _ => cd_s25_10 hp) ?_
  exact cw_ret ⟨rfl, fun a k h1 h2 => by rw [cd_up_k2 (by omega), cd_up_k2 (by omega)], fun _ _ _ => rfl, cf_bl (by decide) (by decide)⟩
theorem cp_25 (hn : n ≤ 500) (hx : ∀ k, x k < 256) (hp : p = 66 ∨ p = 83) (hK : cf_K x n q I) (hq : q ≤ n) (hP : cf_PB D S p I J) (hO : ce_okP D S) (h8 : D 0 0 < 8) {s : Nat} : cw L w (cd_c 25 [.ref p, .ref 3, .int (nI s)] (cd_mm L w I J)) (cf_pq x n p I J (ce_pT x n q D S)) := by
  have hps : p + 13 = 79 ∨ p + 13 = 96 := by omega
  have h64 := hO.2.1.1.1
  refine cw_c (l := [.ref p, .ref 3, .int (nI s), .null, .null]) (by rcases hp with rfl | rfl <;> rfl) (by rcases hp with rfl | rfl <;> rfl) ?_
  refine cw_m (fun _ => cd_s25_0 hp) ?_
  rw [hP.1.1.1, if_pos (show nI (D 0 0) < 8 from nI_lt (b := 8) h8 (by decide))]
  have e0 : ce_pT x n q D S = ce_bd (ce_num x n 0 64 q) fun a => if ce_tk D S a.1 then .error (3, a.2.1) else ce_bd (ce_num x n 1 21 a.2.2) fun h => ce_bd (ce_num x n 1 100 h.2.2) fun w => ce_bd (ce_num x n 0 100 w.2.2) fun r => ce_bd (ce_num x n 1 10 r.2.2) fun b => .ok (b.2.2, ce_aT D h.1 w.1 r.1 b.1, cd_up S 1 (D 0 0) a.1) := rfl
  rw [e0]
  have hin : cd_in (nI (D 0 0)) 8 = true := cd_inN (by omega) (by decide)
  have tk : ∀ I1 : Nat → Nat → Int32, cf_f3 I I1 → cd_c 24 [.ref (p + 13), .int (nI (D 0 0))] (cd_mm L w I1 J) = some (some (.long (lN (ce_msk (cf_tk S (D 0 0)) 64))), cd_mm L w I1 J) := fun I1 f1 => cp_24 (s := p + 13) (by omega) (by omega) (fun t ht => (f1 _ _ (by omega)).trans (hP.2.1.2.1 t ht)) h64
  refine cp_23 hn hx hK hq (lo := 0) (hi := 64) (by decide) (by decide) rfl rfl ?_ ?_
  · intro I1 u1 s1 q1 r1 f1 K1 g6
    obtain ⟨_, u64, hq1, hq1n, _⟩ := ce_num_b hq r1
    have e1 : ce_bd (ce_num x n 0 64 q) (fun a => if ce_tk D S a.1 then .error (3, a.2.1) else ce_bd (ce_num x n 1 21 a.2.2) fun h => ce_bd (ce_num x n 1 100 h.2.2) fun w => ce_bd (ce_num x n 0 100 w.2.2) fun r => ce_bd (ce_num x n 1 10 r.2.2) fun b => (.ok (b.2.2, ce_aT D h.1 w.1 r.1 b.1, cd_up S 1 (D 0 0) a.1) : ce_R)) = if ce_tk D S u1 then .error (3, s1) else ce_bd (ce_num x n 1 21 q1) fun h => ce_bd (ce_num x n 1 100 h.2.2) fun w => ce_bd (ce_num x n 0 100 w.2.2) fun r => ce_bd (ce_num x n 1 10 r.2.2) fun b => .ok (b.2.2, ce_aT D h.1 w.1 r.1 b.1, cd_up S 1 (D 0 0) u1) := by rw [r1]; rfl
    rw [e1]
    refine cw_m (fun _ => cd_s25_15 hp) ?_
    rw [tk I1 f1, cw_bl]
    refine cw_m (fun _ => cd_s25_20 hp) ?_
    have hb := cf_bitL (cf_und_lt (cf_tk S (D 0 0))) u64
    rw [cf_und_tb u64] at hb
    cases htk : ce_tk D S u1 with
    | true =>
      rw [if_neg (fun h => by have := hb.mp h; rw [show cf_tk S (D 0 0) u1 = true from htk] at this; cases this), g6, show (3 : Int32) = nI 3 from rfl, cp_22 K1.2.1.1, cw_bv, if_pos rfl]
      exact cf_pe_q (fun a k h1 h2 => by rw [cd_up_k2 (by omega), cd_up_k2 (by omega)]; exact f1 a k h1) (fun _ _ _ => rfl) rfl (cp_25t hp h8 (cf_bl (by decide) (by decide)))
    | false =>
      rw [if_pos (hb.mpr htk), if_neg (show ¬ false = true by decide)]
      refine cw_m (fun _ => cd_s25_32 hp) ?_
      rw [if_pos hin, nI_clamp (by omega)]
      have f1u := f1.up (p + 14) (D 0 0) (nI u1)
      have n1 : cf_fp p I (cd_up I1 (p + 14) (D 0 0) (nI u1)) := fun a k h1 h2 => by rw [cd_up_a (by omega)]; exact f1 a k h1
      refine cp_23 hn hx (K1.up (a := p + 14) (by omega)) hq1n (lo := 1) (hi := 21) (by decide) (by decide) rfl rfl ?_ ?_
      · intro I2 u2 s2 q2 r2 f2 K2 _
        obtain ⟨_, _, _, hq2n, _⟩ := ce_num_b hq1n r2
        rw [r2]
        refine cw_m (fun _ => cd_s25_45 hp) ?_
        rw [if_pos hin, nI_clamp (by omega)]
        have f2u := (f1u.tr f2).up (p + 1) (D 0 0) (nI u2)
        refine cp_23 hn hx (K2.up (a := p + 1) (by omega)) hq2n (lo := 1) (hi := 100) (by decide) (by decide) rfl rfl ?_ ?_
        · intro I3 u3 s3 q3 r3 f3 K3 _
          obtain ⟨_, _, _, hq3n, _⟩ := ce_num_b hq2n r3
          refine cw_m (fun _ => cd_s25_53 hp) ?_
          rw [if_pos hin, nI_clamp (by omega)]
          have f3u := (f2u.tr f3).up (p + 2) (D 0 0) (nI u3)
          refine cp_23 hn hx (K3.up (a := p + 2) (by omega)) hq3n (lo := 0) (hi := 100) (by decide) (by decide) rfl rfl ?_ ?_
          · intro I4 u4 s4 q4 r4 f4 K4 _
            obtain ⟨_, _, _, hq4n, _⟩ := ce_num_b hq3n r4
            refine cw_m (fun _ => cd_s25_61 hp) ?_
            rw [if_pos hin, nI_clamp (by omega)]
            have f4u := (f3u.tr f4).up (p + 3) (D 0 0) (nI u4)
            refine cp_23 hn hx (K4.up (a := p + 3) (by omega)) hq4n (lo := 1) (hi := 10) (by decide) (by decide) rfl rfl ?_ ?_
            · intro I5 u5 s5 q5 r5 f5 K5 _
              refine cw_m (fun _ => cd_s25_69 hp) ?_
              have f5u := (f4u.tr f5).up (p + 4) (D 0 0) (nI u5)
              have e00 : cd_up I5 (p + 4) (D 0 0) (nI u5) p 0 = nI (D 0 0) := by
                rw [f5u p 0 (by omega), cd_up_a (by omega), cd_up_a (by omega), cd_up_a (by omega), cd_up_a (by omega), cd_up_a (by omega)]
                exact hP.1.1.1
              rw [if_pos hin, nI_clamp (by omega), e00, nI_1]
              have f6u := f5u.up p 0 (nI (D 0 0 + 1))
              have er : (ce_bd (Except.ok (u2, s2, q2)) fun h => ce_bd (ce_num x n 1 100 h.2.2) fun w => ce_bd (ce_num x n 0 100 w.2.2) fun r => ce_bd (ce_num x n 1 10 r.2.2) fun b => (.ok (b.2.2, ce_aT D h.1 w.1 r.1 b.1, cd_up S 1 (D 0 0) u1) : ce_R)) = .ok (q5, ce_aT D u2 u3 u4 u5, cd_up S 1 (D 0 0) u1) := by
                show ce_bd (ce_num x n 1 100 q2) _ = _
                rw [r3]
                show ce_bd (ce_num x n 0 100 q3) _ = _
                rw [r4]
                show ce_bd (ce_num x n 1 10 q4) _ = _
                rw [r5]
                rfl
              rw [er]
              refine cw_ret ⟨rfl, fun a k h1 h2 => ?_, fun _ _ _ => rfl, (K5.up (by omega)).up (by omega), (cf_PB_T hp hP rfl).of3 hp f6u⟩
              rw [f6u a k h1, cd_up_a (by omega), cd_up_a (by omega), cd_up_a (by omega), cd_up_a (by omega), cd_up_a (by omega), cd_up_a (by omega)]
            · intro I5 f p5 r5 f5 F5
              have er : (ce_bd (Except.ok (u2, s2, q2)) fun h => ce_bd (ce_num x n 1 100 h.2.2) fun w => ce_bd (ce_num x n 0 100 w.2.2) fun r => ce_bd (ce_num x n 1 10 r.2.2) fun b => (.ok (b.2.2, ce_aT D h.1 w.1 r.1 b.1, cd_up S 1 (D 0 0) u1) : ce_R)) = .error (f, p5) := by
                show ce_bd (ce_num x n 1 100 q2) _ = _
                rw [r3]
                show ce_bd (ce_num x n 0 100 q3) _ = _
                rw [r4]
                show ce_bd (ce_num x n 1 10 q4) _ = _
                rw [r5]
                rfl
              exact cf_pe_q (fun a k h1 h2 => by rw [(f4u.tr f5) a k h1, cd_up_a (by omega), cd_up_a (by omega), cd_up_a (by omega), cd_up_a (by omega)]) (fun _ _ _ => rfl) er (cp_25t5 hp h8 F5)
          · intro I4 f p4 r4 f4 F4
            have er : (ce_bd (Except.ok (u2, s2, q2)) fun h => ce_bd (ce_num x n 1 100 h.2.2) fun w => ce_bd (ce_num x n 0 100 w.2.2) fun r => ce_bd (ce_num x n 1 10 r.2.2) fun b => (.ok (b.2.2, ce_aT D h.1 w.1 r.1 b.1, cd_up S 1 (D 0 0) u1) : ce_R)) = .error (f, p4) := by
              show ce_bd (ce_num x n 1 100 q2) _ = _
              rw [r3]
              show ce_bd (ce_num x n 0 100 q3) _ = _
              rw [r4]
              rfl
            exact cf_pe_q (fun a k h1 h2 => by rw [(f3u.tr f4) a k h1, cd_up_a (by omega), cd_up_a (by omega), cd_up_a (by omega)]) (fun _ _ _ => rfl) er (cp_25t4 hp h8 F4)
        · intro I3 f p3 r3 f3 F3
          have er : (ce_bd (Except.ok (u2, s2, q2)) fun h => ce_bd (ce_num x n 1 100 h.2.2) fun w => ce_bd (ce_num x n 0 100 w.2.2) fun r => ce_bd (ce_num x n 1 10 r.2.2) fun b => (.ok (b.2.2, ce_aT D h.1 w.1 r.1 b.1, cd_up S 1 (D 0 0) u1) : ce_R)) = .error (f, p3) := by
            show ce_bd (ce_num x n 1 100 q2) _ = _
            rw [r3]
            rfl
          exact cf_pe_q (fun a k h1 h2 => by rw [(f2u.tr f3) a k h1, cd_up_a (by omega), cd_up_a (by omega)]) (fun _ _ _ => rfl) er (cp_25t3 hp h8 F3)
      · intro I2 f p2 r2 f2 F2
        rw [r2]
        exact cf_pe_q (fun a k h1 h2 => by rw [(f1u.tr f2) a k h1, cd_up_a (by omega)]) (fun _ _ _ => rfl) rfl (cp_25t2 hp h8 F2)
  · intro I1 f p1 r1 f1 F1
    rw [r1]
    refine cw_m (fun _ => cd_s25_15 hp) ?_
    rw [tk I1 f1, cw_bl]
    refine cw_m (fun _ => cd_s25_20 hp) ?_
    refine cw_if (fun _ => ?_) (fun _ => ?_)
    · exact cf_pe_q (fun a k h1 h2 => f1 a k h1) (fun _ _ _ => rfl) rfl (cp_25t hp h8 F1)
    · rw [cp_22f F1, cw_bv]
      exact cf_pe_q (fun a k h1 h2 => f1 a k h1) (fun _ _ _ => rfl) rfl (cp_25t hp h8 F1)
end CHE
