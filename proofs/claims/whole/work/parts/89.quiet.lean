/-! ===== the class: isQuiet ===== -/
section CFZ
variable {L : Nat} {w : Bool} {I : Nat → Nat → Int32} {J : Nat → Nat → Int64} {D : cd_D} {S : cd_S}
variable {p s z : Nat} {R : cd_S → Nat → Int32} {o : Option Nat} {b : Nat}
/-- what isQuiet leaves alone -/
def cf_fr79 (I J : Nat → Nat → Int32) : Prop := ∀ a j, ¬ (a = 5 ∨ 8 ≤ a ∧ a ≤ 12 ∨ 15 ≤ a ∧ a ≤ 20) → J a j = I a j
/-- an event found, or none -/
def cf_ev (D : cd_D) (S : cd_S) (x : Option (Nat × Nat)) (v : Option Value) (I1 : Nat → Nat → Int32) : Prop := match x with
  | none => v = some (.int (nI 1))
  | some e => v = some (.int (nI 0)) ∧ I1 5 4 = nI e.1 ∧ I1 5 5 = nI e.2 ∧ (e.1 = 2 → I1 5 6 = cd_oi (ce_slid D S e.2))
theorem cp_77 {x y u : Int32} : cd_c 77 [.ref 5, .int x, .int y, .int u] (cd_mm L w I J) = some (some (.int 0), cd_mm L w (cd_up (cd_up (cd_up I 5 4 x) 5 5 y) 5 6 u) J) := cd_c_of (l := [_, _, _, _]) rfl rfl (cd_s77_0 rfl)
theorem cf_up5 {x y u : Int32} : cd_up (cd_up (cd_up I 5 4 x) 5 5 y) 5 6 u 5 4 = x ∧ cd_up (cd_up (cd_up I 5 4 x) 5 5 y) 5 6 u 5 5 = y ∧ cd_up (cd_up (cd_up I 5 4 x) 5 5 y) 5 6 u 5 6 = u ∧ ∀ a j, a ≠ 5 → cd_up (cd_up (cd_up I 5 4 x) 5 5 y) 5 6 u a j = I a j := ⟨rfl, rfl, rfl, fun a j h => by rw [cd_up_a h, cd_up_a h, cd_up_a h]⟩
theorem cf_oiEq {t : Nat} (ht : t < 2 ^ 31) (ho : ∀ u, o = some u → u < 2 ^ 31) : (nI t = cd_oi o) ↔ o = some t := Iff.of_eq (cw_oie ho ht)
/-- the things that slide -/
theorem cp_79c (hp : p = 66 ∨ p = 83) (hs : s = 22 ∨ s = 45) (hD : cd_okD D) (hS : cd_okS D S) (hP : cf_P D p I J) (hQ : cf_S D S s I) (hG : cf_G D S (D 0 2) I) (ho : ∀ u, o = some u → u < 2 ^ 31) (hb : b ≤ 999) {x5 : Int32} (w7 : Value) : cw L w (cd_go 79 94 [.ref 5, .ref p, .ref s, .int (cd_oi o), .int (nI b), .int x5, .int (nI 0), w7] [] (cd_mm L w I J)) (fun v I1 J1 => J1 = J ∧ (∀ a j, a ≠ 5 → I1 a j = I a j) ∧ cf_ev D S ((ce_fst (ce_n2 D S o b) (D 0 0) 0).map fun t => (2, t)) v I1) := by
  have h8 := hD.1.1
  have go := cw_up (L := L) (w := w) (Q := fun v I1 J1 => J1 = J ∧ (∀ a j, a ≠ 5 → I1 a j = I a j) ∧ cf_ev D S ((ce_fst (ce_n2 D S o b) (D 0 0) 0).map fun t => (2, t)) v I1) (fun t (y : Value) => cd_go 79 94 [.ref 5, .ref p, .ref s, .int (cd_oi o), .int (nI b), .int x5, .int (nI t), y] [] (cd_mm L w I J)) (fun t _ => ce_fst (ce_n2 D S o b) (D 0 0) 0 = ce_fst (ce_n2 D S o b) (D 0 0 - t) t) (D 0 0) ?_ ?_ 0 w7 (Nat.zero_le _) rfl
  · exact go
  · intro y he
    refine cw_m (fun _ => cd_s79_94 hp hs) ?_
    rw [hP.1.1, if_neg (fun h => Int32.lt_irrefl h), he, Nat.sub_self]
    exact cw_ret ⟨rfl, fun _ _ _ => rfl, rfl⟩
  · intro t y ht he K
    rw [ce_fst_st ht] at he
    have hz := ce_size_b (S := S) hD t
    have hpb := ce_prs_b (S := S) hD (fun k hk => (hS.2.2.2 k hk).2) ht
    have dt := hD.2.1 t ht
    have g20 : I 20 t = zI (ce_prs D S t) := (hG t ht).2.2
    have hin : cd_in (nI t) 8 = true := cd_inN (by omega) (by decide)
    have hm : ce_prs D S t * (D 3 t : Int) ≤ 30000 * 99 := Int.mul_le_mul hpb.2 (by omega) (by omega) (by omega)
    have hm0 : 0 ≤ ce_prs D S t * (D 3 t : Int) := Int.mul_nonneg hpb.1 (by omega)
    have hbm : ce_bmp o b t ≤ 999 := by unfold ce_bmp; split <;> omega
    have hq0 : 0 ≤ ce_prs D S t * (D 3 t : Int) / 10 := Int.ediv_nonneg hm0 (by decide)
    refine cw_m (fun _ => cd_s79_94 hp hs) ?_
    rw [hP.1.1, if_pos (nI_lt ht (by omega)), cp_62 hD ht hG, cw_bi]
    refine cw_m (fun _ => cd_s79_101 hp hs) ?_
    have rest : ∀ m : Nat, m = ce_bmp o b t → cw L w (if zI (ce_prs D S t) * nI (D 3 t) / 10 < zI (ce_size D S t) + nI m then ((cd_ci (cd_c 78 [.ref 5, .ref p, .ref s, .int (nI t)] (cd_mm L w I J))).bind fun q => cd_go 79 127 [.ref 5, .ref p, .ref s, .int (cd_oi o), .int (nI b), .int x5, .int (nI t), .int (zI (ce_size D S t) + nI m)] [.int q.1] q.2) else cd_go 79 94 [.ref 5, .ref p, .ref s, .int (cd_oi o), .int (nI b), .int x5, .int (nI t + 1), .int (zI (ce_size D S t) + nI m)] [] (cd_mm L w I J)) (fun v I1 J1 => J1 = J ∧ (∀ a j, a ≠ 5 → I1 a j = I a j) ∧ cf_ev D S ((ce_fst (ce_n2 D S o b) (D 0 0) 0).map fun t => (2, t)) v I1) := fun m hmm => by
      subst hmm
      rw [cw_znmul, show (10 : Int32) = nI 10 from rfl, cw_zd hm0 (by omega) (by decide) (by decide), cw_znadd, nI_1]
      have hlt : (zI (ce_prs D S t * (D 3 t : Int) / ((10 : Nat) : Int)) < zI (ce_size D S t + (ce_bmp o b t : Nat))) ↔ ce_prs D S t * (D 3 t : Int) / 10 < ce_size D S t + (ce_bmp o b t : Nat) := zI_lt (by omega) (by omega) (by omega) (by omega)
      have en : ce_n2 D S o b t = (decide (ce_prs D S t * (D 3 t : Int) / 10 < ce_size D S t + (ce_bmp o b t : Nat)) && (ce_slid D S t).isSome) := rfl
      by_cases h1 : ce_prs D S t * (D 3 t : Int) / 10 < ce_size D S t + (ce_bmp o b t : Nat)
      · rw [if_pos (hlt.mpr h1), cp_78 hp hs hD hS hP hQ ht hG, cw_bi]
        refine cw_m (fun _ => cd_s79_127 hp hs) ?_
        cases hq : ce_slid D S t with
        | none =>
          rw [if_pos (show cd_oi none = -1 from rfl), nI_1]
          refine K _ ?_
          rw [he, en, hq, if_neg (by rw [Option.isSome_none, Bool.and_false]; decide)]
        | some c =>
          have hc : c < 64 := ce_slid_lt hD hS ht hq
          rw [if_neg (show ¬ cd_oi (some c) = -1 from fun e => by
            rw [show cd_oi (some c) = nI c from rfl, show (-1 : Int32) = zI (-1) from rfl, ← zI_n, zI_eq (by omega) (by omega) (by decide) (by decide)] at e
            omega), cp_78 hp hs hD hS hP hQ ht hG, cw_bi]
          refine cw_m (fun _ => cd_s79_137 hp hs) ?_
          rw [cp_77, cw_bi]
          refine cw_m (fun _ => cd_s79_138 hp hs) ?_
          rw [if_pos (by decide)]
          rw [en, hq, decide_eq_true h1, Option.isSome_some, Bool.true_and, if_pos rfl] at he
          rw [he]
          obtain ⟨u1, u2, u3, u4⟩ := cf_up5 (I := I) (x := 2) (y := nI t) (u := cd_oi (ce_slid D S t))
          rw [← hq]
          exact cw_ret ⟨rfl, u4, rfl, u1, u2, fun _ => u3⟩
      · rw [if_neg (fun h => h1 (hlt.mp h))]
        refine K _ ?_
        rw [he, en, decide_eq_false h1, Bool.false_and, if_neg (by decide)]
    by_cases hot : o = some t
    · rw [if_pos ((cf_oiEq (by omega) ho).mpr hot), if_pos hin, if_pos hin, nI_clamp (by omega), g20, (hP.2.1 t ht).2.2.1]
      exact rest b (by unfold ce_bmp; rw [if_pos hot])
    · rw [if_neg (fun h => hot ((cf_oiEq (by omega) ho).mp h)), if_pos hin, if_pos hin, nI_clamp (by omega), g20, (hP.2.1 t ht).2.2.1]
      exact rest 0 (by unfold ce_bmp; rw [if_neg hot])
end CFZ
