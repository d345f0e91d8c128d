/-! ===== the class: settle, to its end ===== -/
theorem cf_next0 {D : cd_D} {S : cd_S} (b : Nat) : ce_next D S none b = ce_next D S none 0 := by
  have h : ∀ x, ce_bmp none b x = ce_bmp none 0 x := fun x => by
    unfold ce_bmp
    rw [if_neg (fun q => by cases q), if_neg (fun q => by cases q)]
  have n0 : ce_n0 D S none b = ce_n0 D S none 0 := funext fun k => by unfold ce_n0; rw [h]
  have n1 : ce_n1 D S none b = ce_n1 D S none 0 := funext fun k => by unfold ce_n1; rw [h]
  have n2 : ce_n2 D S none b = ce_n2 D S none 0 := funext fun k => by unfold ce_n2; rw [h]
  unfold ce_next
  rw [n0, n1, n2]
section CGC
variable {L : Nat} {w : Bool} {I : Nat → Nat → Int32} {J : Nat → Nat → Int64} {D : cd_D} {S : cd_S}
variable {p s z l : Nat} {R : cd_S → Nat → Int32} {o : Option Nat} {b : Nat}
theorem cp_80 (hp : p = 66 ∨ p = 83) (hs : s = 22 ∨ s = 45) (hD : cd_okD D) (hS : cd_okS D S) (hR : ce_okR D S) (hP : cf_P D p I J) (hQ : cf_S D S s I) {e : Nat × Nat} (he : ce_okE D S e) (h4 : I 5 4 = nI e.1) (h5 : I 5 5 = nI e.2) (h6 : e.1 = 2 → I 5 6 = cd_oi (ce_slid D S e.2)) : cw L w (cd_c 80 [.ref 5, .ref p, .ref s] (cd_mm L w I J)) (fun v I1 J1 => v = none ∧ J1 = J ∧ (∀ a j, ¬ (s ≤ a ∧ a ≤ s + 3) → I1 a j = I a j) ∧ cf_S D (ce_hap D S e) s I1) := by
  obtain ⟨e1, e2⟩ := e
  rcases he with ⟨h, h2, -⟩ | ⟨h, h2⟩ | ⟨h, h2, c, hc⟩
  · replace h : e1 = 0 := h
    subst h
    exact cp_80g hp hs hD hS hQ h2 h4 h5
  · replace h : e1 = 1 := h
    subst h
    exact cp_80t hp hs hD hS hQ h2 h4 h5
  · replace h : e1 = 2 := h
    subst h
    replace hc : ce_slid D S e2 = some c := hc
    have h6 := h6 rfl
    replace h6 : I 5 6 = cd_oi (ce_slid D S e2) := h6
    rw [hc] at h6
    exact cp_80s hp hs hD hS hR hP hQ h2 hc h4 h5 h6
/-- what settle may write -/
def cf_fr82 (s l : Nat) (I I1 : Nat → Nat → Int32) : Prop := ∀ a j, ¬ (a = 5 ∨ 8 ≤ a ∧ a ≤ 12 ∨ 15 ≤ a ∧ a ≤ 20 ∨ s ≤ a ∧ a ≤ s + 3 ∨ l ≤ a ∧ a ≤ l + 2) → I1 a j = I a j
theorem cp_82 (hp : p = 66 ∨ p = 83) (hs : s = 22 ∨ s = 45) (hl : l = 26 ∨ l = 42) (hD : cd_okD D) (hT : ce_okT D S) (hP : cf_P D p I J) (hQ : cf_S D S s I) (hC : cf_C D R I J) (ho : ∀ u, o = some u → u < 2 ^ 31) (hb : b ≤ 999) : cw L w (cd_c 82 [.ref 5, .ref p, .ref s, .int (cd_oi o), .int (nI b), .ref l] (cd_mm L w I J)) (fun v I1 J1 => v = none ∧ (∀ a j, a ≠ 7 → J1 a j = J a j) ∧ cf_fr82 s l I I1 ∧ cf_C D R I1 J1 ∧ cf_S D (ce_run D 60 S o b).2 s I1 ∧ cf_L (ce_run D 60 S o b).1 l I1) := by
  refine cw_c (l := [.ref 5, .ref p, .ref s, .int (cd_oi o), .int (nI b), .ref l, .null]) (by rcases hp with rfl | rfl <;> rcases hs with rfl | rfl <;> rcases hl with rfl | rfl <;> rfl) (by rcases hp with rfl | rfl <;> rcases hs with rfl | rfl <;> rcases hl with rfl | rfl <;> rfl) ?_
  refine cw_m (fun _ => cd_s82_0 hp hs hl) ?_
  generalize hX : ce_run D 60 S o b = X
  have go := cw_up (L := L) (w := w) (Q := fun v I1 J1 => v = none ∧ (∀ a j, a ≠ 7 → J1 a j = J a j) ∧ cf_fr82 s l I I1 ∧ cf_C D R I1 J1 ∧ cf_S D X.2 s I1 ∧ cf_L X.1 l I1) (fun i (y : (Nat → Nat → Int32) × (Nat → Nat → Int64) × cd_S × List (Nat × Nat)) => cd_go 82 5 [.ref 5, .ref p, .ref s, .int (cd_oi o), .int (nI b), .ref l, .int (nI i)] [] (cd_mm L w y.1 y.2.1)) (fun i y => (∀ a j, a ≠ 7 → y.2.1 a j = J a j) ∧ cf_fr82 s l I y.1 ∧ cf_C D R y.1 y.2.1 ∧ ce_okT D y.2.2.1 ∧ cf_S D y.2.2.1 s y.1 ∧ cf_L y.2.2.2 l y.1 ∧ y.2.2.2.length = i ∧ X = (y.2.2.2 ++ (ce_run D (60 - i) y.2.2.1 (if i = 0 then o else none) (if i = 0 then b else 0)).1, (ce_run D (60 - i) y.2.2.1 (if i = 0 then o else none) (if i = 0 then b else 0)).2)) 60 ?_ ?_ 0 (cd_up I l 2 0, J, S, []) (Nat.zero_le _) ?_
  · exact go
  · intro ⟨I1, J1, T, E⟩ ⟨fJ, f1, C1, T1, Q1, L1, hE, hX1⟩
    replace hX1 : X = (E ++ [], T) := hX1
    rw [List.append_nil] at hX1
    subst hX1
    show cw L w (cd_go 82 5 _ _ (cd_mm L w I1 J1)) _
    refine cw_m (fun _ => cd_s82_5 hp hs hl) ?_
    rw [if_neg (show ¬ nI 60 < 60 by decide)]
    exact cw_ret ⟨rfl, fJ, f1, C1, Q1, L1⟩
  · intro i ⟨I1, J1, T, E⟩ hi ⟨fJ, f1, C1, T1, Q1, L1, hE, hX1⟩ K
    replace fJ : ∀ a j, a ≠ 7 → J1 a j = J a j := fJ
    replace f1 : cf_fr82 s l I I1 := f1
    replace C1 : cf_C D R I1 J1 := C1
    replace T1 : ce_okT D T := T1
    replace Q1 : cf_S D T s I1 := Q1
    replace L1 : cf_L E l I1 := L1
    replace hE : E.length = i := hE
    have hP1 := hP.of (I1 := I1) (J1 := J1) (fun a k h1 h2 => f1 a k (by omega)) (fun j => fJ _ _ (by omega))
    generalize hoi : (if i = 0 then o else none) = oi at hX1
    generalize hbi : (if i = 0 then b else 0) = bi at hX1
    replace hX1 : X = (E ++ (ce_run D (60 - i) T oi bi).1, (ce_run D (60 - i) T oi bi).2) := hX1
    have hoi2 : ∀ u, oi = some u → u < 2 ^ 31 := fun u hu => by
      rw [← hoi] at hu
      by_cases h0 : i = 0
      · rw [if_pos h0] at hu; exact ho u hu
      · rw [if_neg h0] at hu; cases hu
    have hnx : ce_next D T oi b = ce_next D T oi bi := by
      rw [← hoi, ← hbi]
      by_cases h0 : i = 0
      · rw [if_pos h0, if_pos h0]
      · rw [if_neg h0, if_neg h0]; exact cf_next0 b
    rw [show 60 - i = (59 - i) + 1 by omega, ce_run_s, ← hnx] at hX1
    show cw L w (cd_go 82 5 _ _ (cd_mm L w I1 J1)) _
    refine cw_m (fun _ => cd_s82_5 hp hs hl) ?_
    rw [if_pos (show nI i < 60 from nI_lt (b := 60) hi (by decide))]
    have one : cw L w ((cd_ci (cd_c 79 [.ref 5, .ref p, .ref s, .int (cd_oi oi), .int (nI b)] (cd_mm L w I1 J1))).bind fun q => cd_go 82 18 [.ref 5, .ref p, .ref s, .int (cd_oi o), .int (nI b), .ref l, .int (nI i)] [.int q.1] q.2) (fun v I1 J1 => v = none ∧ (∀ a j, a ≠ 7 → J1 a j = J a j) ∧ cf_fr82 s l I I1 ∧ cf_C D R I1 J1 ∧ cf_S D X.2 s I1 ∧ cf_L X.1 l I1) := by
      refine cw_ci (cw_mono (cp_79 hp hs hD T1.1 T1.2.2.1 hP1 Q1 C1 hoi2 hb) ?_)
      intro v I2 J2 ⟨fJ2, f2, C2, ev⟩
      have fJ2' : ∀ a j, a ≠ 7 → J2 a j = J a j := fun a j h => (fJ2 a j h).trans (fJ a j h)
      have f2' : cf_fr82 s l I I2 := fun a j h => (f2 a j (by omega)).trans (f1 a j h)
      have Q2 := Q1.of (I1 := I2) (fun a k h1 h2 => f2 a k (by omega))
      have L2 : cf_L E l I2 := ⟨(f2 _ _ (by omega)).trans L1.1, fun j hj => ⟨(f2 _ _ (by omega)).trans (L1.2 j hj).1, (f2 _ _ (by omega)).trans (L1.2 j hj).2⟩⟩
      cases hn : ce_next D T oi b with
      | none =>
        rw [hn] at hX1 ev
        replace hX1 : X = (E ++ [], T) := hX1
        rw [List.append_nil] at hX1
        subst hX1
        refine ⟨_, ev, ?_⟩
        refine cw_m (fun _ => cd_s82_18 hp hs hl) ?_
        rw [if_neg (show ¬ nI 1 = 0 by decide)]
        exact cw_ret ⟨rfl, fJ2', f2', C2, Q2, L2⟩
      | some e =>
        rw [hn] at hX1 ev
        replace hX1 : X = (E ++ e :: (ce_run D (59 - i) (ce_hap D T e) none 0).1, (ce_run D (59 - i) (ce_hap D T e) none 0).2) := hX1
        obtain ⟨hv, e4, e5, e6⟩ := ev
        have he := ce_next_b hn
        have he0 : e.1 < 3 := ce_next3 hn
        refine ⟨_, hv, ?_⟩
        have hP2 := hP.of (I1 := I2) (J1 := J2) (fun a k h1 h2 => f2' a k (by omega)) (fun j => fJ2' _ _ (by omega))
        refine cw_m (fun _ => cd_s82_18 hp hs hl) ?_
        rw [if_pos (show nI 0 = 0 from rfl)]
        refine cw_cv (cw_mono (cp_80 hp hs hD T1.1 T1.2.1 hP2 Q2 he e4 e5 e6) ?_)
        intro v I3 J3 ⟨hv3, hJ3, f3, Q3⟩
        have hJ3 := hJ3.symm
        subst hJ3
        refine ⟨hv3, ?_⟩
        have L3 : cf_L E l I3 := ⟨(f3 _ _ (by omega)).trans L2.1, fun j hj => ⟨(f3 _ _ (by omega)).trans (L2.2 j hj).1, (f3 _ _ (by omega)).trans (L2.2 j hj).2⟩⟩
        refine cw_m (fun _ => cd_s82_24 hp hs hl) ?_
        rw [f3 5 4 (by omega), f3 5 5 (by omega), e4, e5]
        refine cw_cv (cw_mono (cp_81 hl (by omega) L3 e.1 e.2) ?_)
        intro v I4 J4 ⟨hv4, hJ4, f4, L4⟩
        have hJ4 := hJ4.symm
        subst hJ4
        refine ⟨hv4, ?_⟩
        refine cw_m (fun _ => cd_s82_30 hp hs hl) ?_
        rw [nI_1]
        refine K (I4, J2, ce_hap D T e, E ++ [e]) ⟨fJ2', fun a j h => (f4 a j (by omega)).trans ((f3 a j (by omega)).trans (f2' a j h)), C2.of (fun a k h1 h2 => (f4 a k (by omega)).trans (f3 a k (by omega))) (fun _ => rfl), ce_hap_okT T1 he, Q3.of (fun a k h1 h2 => f4 a k (by omega)), L4, ?_, ?_⟩
        · show (E ++ [e]).length = i + 1
          rw [List.length_append, hE]
          rfl
        · show X = (E ++ [e] ++ (ce_run D (60 - (i + 1)) (ce_hap D T e) (if i + 1 = 0 then o else none) (if i + 1 = 0 then b else 0)).1, (ce_run D (60 - (i + 1)) (ce_hap D T e) (if i + 1 = 0 then o else none) (if i + 1 = 0 then b else 0)).2)
          rw [if_neg (Nat.succ_ne_zero i), if_neg (Nat.succ_ne_zero i), show 60 - (i + 1) = 59 - i by omega, List.append_assoc]
          exact hX1
    by_cases h0 : i = 0
    · rw [if_pos (show nI i = 0 by rw [h0]; rfl)]
      have : oi = o := by rw [← hoi, if_pos h0]
      rw [this] at one
      exact one
    · rw [if_neg (show ¬ nI i = 0 from fun q => h0 ((nI_eq (b := 0) (by omega) (by decide)).mp q))]
      have : oi = none := by rw [← hoi, if_neg h0]
      rw [this] at one
      exact one
  · refine ⟨fun _ _ _ => rfl, fun a j h => cd_up_k2 (by omega), hC.of (fun a k h1 h2 => cd_up_k2 (by omega)) (fun _ => rfl), hT, hQ.of (fun a k h1 h2 => cd_up_k2 (by omega)), ⟨cd_up_s, fun j hj => absurd hj (Nat.not_lt_zero j)⟩, rfl, ?_⟩
    show X = ([] ++ (ce_run D (60 - 0) S (if 0 = 0 then o else none) (if 0 = 0 then b else 0)).1, (ce_run D (60 - 0) S (if 0 = 0 then o else none) (if 0 = 0 then b else 0)).2)
    rw [if_pos rfl, if_pos rfl, List.nil_append]
    exact hX.symm
end CGC
