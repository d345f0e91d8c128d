/-! ===== the class: findOrder, order ===== -/
section CGZ
variable {L : Nat} {w : Bool} {I : Nat → Nat → Int32} {J : Nat → Nat → Int64} {D : cd_D} {S : cd_S}
variable {Y : ce_Y} {mem : Nat → Nat} {c : Nat}
/-- what the tries of an order may write -/
def cf_fr117 (I I1 : Nat → Nat → Int32) : Prop := ∀ a j, ¬ (a = 5 ∨ 8 ≤ a ∧ a ≤ 12 ∨ 15 ≤ a ∧ a ≤ 20 ∨ 22 ≤ a ∧ a ≤ 25 ∨ 29 ≤ a ∧ a ≤ 31 ∨ a = 21 ∧ j = 5) → I1 a j = I a j
/-- the row of an order, once all are judged -/
theorem cp_117c (hK : ce_ok D S Y) (hM : cf_M D S Y w I J) (hm : cf_mem S (D 0 2) c mem) (hc : c ≤ 7) (h5 : I 21 5 = nI c) (h30 : ∀ i, i < c → I 30 i = nI (mem i)) {F : Nat → Bool} (hg : ∀ x, x < 2 ^ c → I 29 x = cd_tf (cf_gd S F mem (D 0 2) c x)) (hgg : ce_gg F (D 0 2) (S 0 2) = true) {x4 x5 x6 : Int32} {v9 : Value} : cw L w (cd_go 117 96 [.ref 21, .ref 5, .ref (cd_ple w), .ref 45, .int x4, .int x5, .int x6, .int (nI 0), .int (nI 0), v9] [] (cd_mm L w I J)) (fun v I1 J1 => v = some (.int 1) ∧ cf_M D S Y w I1 J1 ∧ (∀ a j, a ≠ 31 → I1 a j = I a j) ∧ ∀ j, j < c → I1 31 j = cd_oi (ce_nxt F (D 0 2) (ce_lft F (D 0 2) (S 0 2) j))) := by
  have hp := cf_ple w
  have hS2 := hK.2.1.1.2.2.1
  have h12 := hK.1.1.2.2.1
  have hpw : 2 ^ c ≤ 128 := Nat.le_trans (Nat.pow_le_pow_right (by decide) hc) (by decide)
  have hcnt : fa_cnt (fun k => (S 0 2).testBit k) (D 0 2) = c := hm.1.symm
  refine cw_up (L := L) (w := w) (Q := fun v I1 J1 => v = some (.int 1) ∧ cf_M D S Y w I1 J1 ∧ (∀ a j, a ≠ 31 → I1 a j = I a j) ∧ ∀ j, j < c → I1 31 j = cd_oi (ce_nxt F (D 0 2) (ce_lft F (D 0 2) (S 0 2) j))) (fun i (y : (Nat → Nat → Int32) × Nat × Value) => cd_go 117 96 [.ref 21, .ref 5, .ref (cd_ple w), .ref 45, .int x4, .int x5, .int x6, .int (nI y.2.1), .int (nI i), y.2.2] [] (cd_mm L w y.1 J)) (fun i y => (∀ a j, a ≠ 31 → y.1 a j = I a j) ∧ (∀ j, j < i → y.1 31 j = cd_oi (ce_nxt F (D 0 2) (ce_lft F (D 0 2) (S 0 2) j))) ∧ y.2.1 < 2 ^ c ∧ cf_TT S mem (D 0 2) c y.2.1 = ce_lft F (D 0 2) (S 0 2) i ∧ ce_gg F (D 0 2) (cf_TT S mem (D 0 2) c y.2.1) = true ∧ fa_cnt (fun k => (cf_TT S mem (D 0 2) c y.2.1).testBit k) (D 0 2) + i = c) c ?_ ?_ 0 (I, 0, v9) (Nat.zero_le _) ⟨fun _ _ _ => rfl, fun j hj => by omega, ce_2pos, hm.T_0 hS2, by rw [show cf_TT S mem (D 0 2) c 0 = S 0 2 from hm.T_0 hS2]; exact hgg, by
      show fa_cnt (fun k => (cf_TT S mem (D 0 2) c 0).testBit k) (D 0 2) + 0 = c
      rw [hm.T_0 hS2]
      exact hcnt⟩
  · intro ⟨I3, d, u9⟩ ⟨f3, g3, _⟩
    replace f3 : ∀ a j, a ≠ 31 → I3 a j = I a j := f3
    show cw L w (cd_go 117 96 _ _ (cd_mm L w I3 J)) _
    refine cw_m (fun _ => cd_s117_96 hp) ?_
    rw [f3 _ _ (by decide), h5, if_neg (fun q => Int32.lt_irrefl q)]
    exact cw_ret ⟨rfl, hM.of hK (fun a k hn => f3 a k (by omega)), f3, g3⟩
  · intro i ⟨I3, d, u9⟩ hi ⟨f3, g3, hd, hT, hG, hC⟩ K
    replace f3 : ∀ a j, a ≠ 31 → I3 a j = I a j := f3
    replace g3 : ∀ j, j < i → I3 31 j = cd_oi (ce_nxt F (D 0 2) (ce_lft F (D 0 2) (S 0 2) j)) := g3
    replace hd : d < 2 ^ c := hd
    replace hT : cf_TT S mem (D 0 2) c d = ce_lft F (D 0 2) (S 0 2) i := hT
    replace hG : ce_gg F (D 0 2) (cf_TT S mem (D 0 2) c d) = true := hG
    replace hC : fa_cnt (fun k => (cf_TT S mem (D 0 2) c d).testBit k) (D 0 2) + i = c := hC
    have hne : cf_TT S mem (D 0 2) c d ≠ 0 := fun q => by
      have hz : ∀ x, fa_cnt (fun k => (0 : Nat).testBit k) x = 0 := by
        intro x
        induction x with
        | zero => rfl
        | succ x ih => rw [ce_cnt_s, ih, Nat.zero_testBit]; rfl
      rw [q, hz] at hC
      omega
    obtain ⟨k, n1, n2, n3, n4⟩ := ce_nxt_some (cf_mem.T_lt hS2) hne hG
    have hnx := hm.nx hS2 (F := F) (d := d)
    show cw L w (cd_go 117 96 [.ref 21, .ref 5, .ref (cd_ple w), .ref 45, .int x4, .int x5, .int x6, .int (nI d), .int (nI i), u9] [] (cd_mm L w I3 J)) _
    refine cw_m (fun _ => cd_s117_96 hp) ?_
    rw [f3 _ _ (by decide), h5, if_pos (nI_lt hi (by omega)), cp_115 (S := S) (F := F) (mem := mem) hc ((f3 _ _ (by decide)).trans h5) hd (fun x _ hx => (f3 _ _ (by decide)).trans (hg x hx)), cw_bi]
    refine cw_m (fun _ => cd_s117_103 hp) ?_
    rw [n1] at hnx
    cases hni : cf_ni S F mem (D 0 2) c d with
    | none => rw [hni] at hnx; cases hnx
    | some m =>
      rw [hni] at hnx
      have hmk : k = mem m := Option.some.inj hnx
      obtain ⟨_, g2, q3, _⟩ := ce_fst_some hni
      have hmc : m < c := by omega
      have hdm : d.testBit m = false := by
        have q3 : (!d.testBit m && cf_gd S F mem (D 0 2) c (d ||| 2 ^ m)) = true := q3
        cases hq : d.testBit m with
        | false => rfl
        | true => rw [hq] at q3; cases q3
      rw [if_neg (show ¬ cd_oi (some m) = -1 from fun e => by
        rw [show cd_oi (some m) = nI m from rfl, show (-1 : Int32) = zI (-1) from rfl, ← zI_n, zI_eq (by omega) (by omega) (by decide) (by decide)] at e
        omega), show cd_oi (some m) = nI m from rfl, if_pos (cd_inN (by omega) (by decide)), if_pos (cd_inN (by omega) (by decide)), nI_clamp (by omega), nI_clamp (by omega), f3 30 _ (by decide), h30 m hmc, show (1 : Int32) <<< (nI m &&& 31) = nI (2 ^ m) from cw_sh1 (by omega), cw_or, nI_1]
      have hT2 := hm.T_or hS2 hmc hdm
      have eL : ce_lft F (D 0 2) (S 0 2) (i + 1) = ce_lft F (D 0 2) (S 0 2) i ^^^ 2 ^ k := by
        show (match ce_nxt F (D 0 2) (ce_lft F (D 0 2) (S 0 2) i) with
          | none => ce_lft F (D 0 2) (S 0 2) i
          | some k => ce_lft F (D 0 2) (S 0 2) i ^^^ 2 ^ k) = _
        rw [← hT, n1]
      have hfl := ce_cnt_flip n3 (D 0 2) n2
      refine K (cd_up I3 31 i (nI (mem m)), d ||| 2 ^ m, _) ⟨fun a j hn => (cd_up_a hn).trans (f3 a j hn), fun j hj => ?_, ce_or_lt hd (Nat.pow_lt_pow_right (by decide) hmc), ?_, ?_, ?_⟩
      · show cd_up I3 31 i (nI (mem m)) 31 j = _
        by_cases hji : j = i
        · subst hji
          rw [cd_up_s, ← hT, n1, hmk]
          rfl
        · rw [cd_up_k hji]
          exact g3 j (by omega)
      · show cf_TT S mem (D 0 2) c (d ||| 2 ^ m) = _
        rw [hT2, eL, hT, hmk]
      · show ce_gg F (D 0 2) (cf_TT S mem (D 0 2) c (d ||| 2 ^ m)) = true
        rw [hT2, ← hmk]
        exact n4
      · show fa_cnt (fun k => (cf_TT S mem (D 0 2) c (d ||| 2 ^ m)).testBit k) (D 0 2) + (i + 1) = c
        rw [hT2, ← hmk]
        omega
theorem cp_117 (hK : ce_ok D S Y) (hM : cf_M D S Y w I J) {hand : Nat} {dn : Bool} (hh : hand < 5) (h7 : fa_cnt (cd_held S) (D 0 2) ≤ 7) : cw L w (cd_c 117 [.ref 21, .ref 5, .ref (cd_ple w), .ref 45, .int (nI hand), .int (cd_tf dn)] (cd_mm L w I J)) (fun v I1 J1 => v = some (.int (cd_tf (ce_gg (ce_oF D S dn hand) (D 0 2) (S 0 2)))) ∧ cf_M D S Y w I1 J1 ∧ cf_fr I I1 ∧ I1 21 5 = nI (fa_cnt (cd_held S) (D 0 2)) ∧ (ce_gg (ce_oF D S dn hand) (D 0 2) (S 0 2) = true → ∀ j, j < fa_cnt (cd_held S) (D 0 2) → I1 31 j = cd_oi (ce_nxt (ce_oF D S dn hand) (D 0 2) (ce_lft (ce_oF D S dn hand) (D 0 2) (S 0 2) j)))) := by
  have hp := cf_ple w
  have hS2 := hK.2.1.1.2.2.1
  have h12 := hK.1.1.2.2.1
  have hl2 : S 0 2 < 65536 := Nat.lt_of_lt_of_le hS2 (Nat.le_trans (Nat.pow_le_pow_right (by decide) h12) (by decide))
  refine cw_c (l := [.ref 21, .ref 5, .ref (cd_ple w), .ref 45, .int (nI hand), .int (cd_tf dn), .null, .null, .null, .null]) (by cases w <;> rfl) (by cases w <;> rfl) ?_
  refine cw_m (fun _ => cd_s117_0 hp) ?_
  generalize hQ : (fun (v : Option Value) (I1 : Nat → Nat → Int32) (J1 : Nat → Nat → Int64) => v = some (.int (cd_tf (ce_gg (ce_oF D S dn hand) (D 0 2) (S 0 2)))) ∧ cf_M D S Y w I1 J1 ∧ cf_fr I I1 ∧ I1 21 5 = nI (fa_cnt (cd_held S) (D 0 2)) ∧ (ce_gg (ce_oF D S dn hand) (D 0 2) (S 0 2) = true → ∀ j, j < fa_cnt (cd_held S) (D 0 2) → I1 31 j = cd_oi (ce_nxt (ce_oF D S dn hand) (D 0 2) (ce_lft (ce_oF D S dn hand) (D 0 2) (S 0 2) j)))) = Q
  have hQi : ∀ {v I1 J1}, v = some (.int (cd_tf (ce_gg (ce_oF D S dn hand) (D 0 2) (S 0 2)))) → cf_M D S Y w I1 J1 → cf_fr I I1 → I1 21 5 = nI (fa_cnt (cd_held S) (D 0 2)) → (ce_gg (ce_oF D S dn hand) (D 0 2) (S 0 2) = true → ∀ j, j < fa_cnt (cd_held S) (D 0 2) → I1 31 j = cd_oi (ce_nxt (ce_oF D S dn hand) (D 0 2) (ce_lft (ce_oF D S dn hand) (D 0 2) (S 0 2) j))) → Q v I1 J1 := fun a b c d e => by rw [← hQ]; exact ⟨a, b, c, d, e⟩
  clear hQ
  -- judged from all done on
  have judge : ∀ (c : Nat) (mem : Nat → Nat) (I1 : Nat → Nat → Int32), cf_mem S (D 0 2) c mem → c ≤ 7 → cf_M D S Y w I1 J → cf_fr117 I I1 → I1 21 5 = nI c → (∀ i, i < c → I1 30 i = nI (mem i)) → cw L w (cd_go 117 40 [.ref 21, .ref 5, .ref (cd_ple w), .ref 45, .int (nI hand), .int (cd_tf dn), .int (nI (2 ^ c - 1)), .int (nI (2 ^ c - 1)), .null, .null] [] (cd_mm L w I1 J)) Q := by
    intro c mem I1 hm hc M1 f1 h5 h30
    have hpw : 2 ^ c ≤ 128 := Nat.le_trans (Nat.pow_le_pow_right (by decide) hc) (by decide)
    have hp1 : 0 < 2 ^ c := ce_2pos
    have hcn := hm.1
    generalize hF : ce_oF D S dn hand = F at *
    have FT : ∀ x, F (cf_TT S mem (D 0 2) c x) = ce_sw D S (S 0 2) hand (cf_U mem (D 0 2) c (if dn then ce_an (2 ^ c - 1) x else x)) := fun x => by
      rw [← hF]
      unfold ce_oF
      cases dn with
      | true => rw [if_pos rfl, if_pos rfl, hm.T_an hS2]
      | false => rw [if_neg (by decide), if_neg (by decide), hm.T_U hS2]
    have go := cw_dn (L := L) (w := w) (Q := Q) (fun i (y : (Nat → Nat → Int32) × (Nat → Nat → Int64) × Value × Value) => cd_go 117 40 [.ref 21, .ref 5, .ref (cd_ple w), .ref 45, .int (nI hand), .int (cd_tf dn), .int (nI (2 ^ c - 1)), .int (zI ((i : Int) - 1)), y.2.2.1, y.2.2.2] [] (cd_mm L w y.1 y.2.1)) (fun i y => i ≤ 2 ^ c ∧ cf_M D S Y w y.1 y.2.1 ∧ cf_fr117 I y.1 ∧ y.1 21 5 = nI c ∧ (∀ i, i < c → y.1 30 i = nI (mem i)) ∧ ∀ x, i ≤ x → x < 2 ^ c → y.1 29 x = cd_tf (cf_gd S F mem (D 0 2) c x)) ?_ ?_ (2 ^ c) (I1, J, .null, .null) ⟨Nat.le_refl _, M1, f1, h5, h30, fun x h1 h2 => by omega⟩
    · rw [show ((2 ^ c : Nat) : Int) - 1 = ((2 ^ c - 1 : Nat) : Int) by omega, zI_n] at go
      exact go
    · intro ⟨I2, J2, v8, v9⟩ ⟨_, M2, f2, g5, g30, g29⟩
      replace M2 : cf_M D S Y w I2 J2 := M2
      replace f2 : cf_fr117 I I2 := f2
      replace g5 : I2 21 5 = nI c := g5
      replace g30 : ∀ i, i < c → I2 30 i = nI (mem i) := g30
      replace g29 : ∀ x, 0 ≤ x → x < 2 ^ c → I2 29 x = cd_tf (cf_gd S F mem (D 0 2) c x) := g29
      have e0 : cf_gd S F mem (D 0 2) c 0 = ce_gg F (D 0 2) (S 0 2) := by
        unfold cf_gd
        rw [decide_eq_true rfl, Bool.true_or, Bool.and_true, hm.T_0 hS2]
      show cw L w (cd_go 117 40 _ _ (cd_mm L w I2 J2)) _
      refine cw_m (fun _ => cd_s117_40 hp) ?_
      rw [if_pos (show zI (((0 : Nat) : Int) - 1) < 0 by decide), if_pos (show cd_in 0 128 = true by decide), show (0 : Int32).toNatClampNeg = 0 from rfl, g29 0 (Nat.le_refl _) hp1, e0]
      cases hgg : ce_gg F (D 0 2) (S 0 2) with
      | false =>
        rw [if_pos (show cd_tf false = 0 from rfl)]
        exact cw_ret (hQi (by rw [hgg]; rfl) M2 (fun a j h => f2 a j (by omega)) (by rw [← hcn]; exact g5) (fun q => by rw [hgg] at q; cases q))
      | true =>
        rw [if_neg (show ¬ cd_tf true = 0 by decide)]
        refine cw_mono (cp_117c (v9 := v9) (x4 := nI hand) (x5 := cd_tf dn) (x6 := nI (2 ^ c - 1)) hK M2 hm hc g5 g30 (fun x hx => g29 x (Nat.zero_le _) hx) hgg) ?_
        intro v I3 J3 ⟨hv, M3, f3, g31⟩
        exact hQi (by rw [hgg]; exact hv) M3 (fun a j h => (f3 a j (by omega)).trans (f2 a j (by omega))) (by rw [← hcn]; exact (f3 _ _ (by decide)).trans g5) (fun _ j hj => g31 j (by rw [hcn]; exact hj))
    · intro i ⟨I2, J2, v8, v9⟩ ⟨hi, M2, f2, g5, g30, g29⟩ K
      replace hi : i + 1 ≤ 2 ^ c := hi
      replace M2 : cf_M D S Y w I2 J2 := M2
      replace f2 : cf_fr117 I I2 := f2
      replace g5 : I2 21 5 = nI c := g5
      replace g30 : ∀ i, i < c → I2 30 i = nI (mem i) := g30
      replace g29 : ∀ x, i + 1 ≤ x → x < 2 ^ c → I2 29 x = cd_tf (cf_gd S F mem (D 0 2) c x) := g29
      have hin : cd_in (nI i) 128 = true := cd_inN (by omega) (by decide)
      have lead := hm.lead hS2 (F := F) (d := i) (by omega)
      have xm : nI i + (-1) = zI ((i : Int) - 1) := by
        rw [← zI_n, show (-1 : Int32) = zI (-1) from rfl, zI_add]
        rfl
      -- a set judged
      have set : ∀ (I3 : Nat → Nat → Int32) (J3 : Nat → Nat → Int64) (g : Bool) (u8 u9 : Value), cf_M D S Y w I3 J3 → cf_fr116 I2 I3 → cf_gd S F mem (D 0 2) c i = g → cw L w (cd_go 117 40 [.ref 21, .ref 5, .ref (cd_ple w), .ref 45, .int (nI hand), .int (cd_tf dn), .int (nI (2 ^ c - 1)), .int (nI i + (-1)), u8, u9] [] (cd_mm L w (cd_up I3 29 i (cd_tf g)) J3)) Q := fun I3 J3 g u8 u9 M3 f3 hgd => by
        rw [xm]
        refine K (cd_up I3 29 i (cd_tf g), J3, u8, u9) ⟨by omega, M3.of hK (fun a k hn => cd_up_k2 (by omega)), fun a j hn => (cd_up_k2 (by omega)).trans ((f3 a j (by omega)).trans (f2 a j hn)), (by
          show cd_up I3 29 i (cd_tf g) 21 5 = _
          rw [cd_up_a (by decide)]
          exact (f3 _ _ (by omega)).trans g5), fun j hj => (by
          show cd_up I3 29 i (cd_tf g) 30 j = _
          rw [cd_up_a (by decide)]
          exact (f3 _ _ (by omega)).trans (g30 j hj)), fun x h1 h2 => ?_⟩
        show cd_up I3 29 i (cd_tf g) 29 x = _
        by_cases hx : x = i
        · subst hx
          rw [cd_up_s, hgd]
        · rw [cd_up_k hx]
          exact (f3 _ _ (by omega)).trans (g29 x (by omega) h2)
      -- it leads on: judged by how it stands
      have at50 : ce_gg F (D 0 2) (cf_TT S mem (D 0 2) c i) = true → cw L w (cd_go 117 50 [.ref 21, .ref 5, .ref (cd_ple w), .ref 45, .int (nI hand), .int (cd_tf dn), .int (nI (2 ^ c - 1)), .int (nI i), v8, v9] [] (cd_mm L w I2 J2)) Q := fun hl => by
        have gd : cf_gd S F mem (D 0 2) c i = (decide (i = 0) || F (cf_TT S mem (D 0 2) c i)) := by
          unfold cf_gd
          rw [hl, Bool.true_and]
        have stand : ∀ (u : Nat) (x9 : Int32), u < 2 ^ c → i ≠ 0 → u = (if dn then ce_an (2 ^ c - 1) i else i) → cw L w ((cd_ci (cd_c 116 [.ref 21, .ref 5, .ref (cd_ple w), .ref 45, .int (nI u), .int (nI hand)] (cd_mm L w I2 J2))).bind fun q => cd_go 117 78 [.ref 21, .ref 5, .ref (cd_ple w), .ref 45, .int (nI hand), .int (cd_tf dn), .int (nI (2 ^ c - 1)), .int (nI i), .int 1, .int x9] [.int q.1, .int (nI i), .ref 29] q.2) Q := fun u x9 hu hi0 hue => by
          refine cw_ci (cw_mono (cp_116 hK M2 hm hc g5 g30 hu hh) ?_)
          intro v I3 J3 ⟨hv, M3, f3⟩
          refine ⟨_, hv, ?_⟩
          have hgd : cf_gd S F mem (D 0 2) c i = ce_sw D S (S 0 2) hand (cf_U mem (D 0 2) c u) := by
            rw [gd, decide_eq_false hi0, Bool.false_or, FT, hue]
          refine cw_m (fun _ => cd_s117_78 hp) ?_
          rw [nI_clamp (by omega)]
          cases hsw : ce_sw D S (S 0 2) hand (cf_U mem (D 0 2) c u) with
          | false =>
            rw [if_pos (show cd_tf false = 0 from rfl), if_pos hin]
            exact set I3 J3 false _ _ M3 f3 (by rw [hgd, hsw])
          | true =>
            rw [if_neg (show ¬ cd_tf true = 0 by decide), if_pos hin]
            exact set I3 J3 true _ _ M3 f3 (by rw [hgd, hsw])
        have hle := ce_an_le (2 ^ c - 1) i
        refine cw_m (fun _ => cd_s117_50 hp) ?_
        rw [nI_clamp (by omega), show (-1 : Int32) = zI (-1) from rfl, cw_andn]
        cases dn with
        | false =>
          rw [if_pos (show cd_tf false = 0 from rfl)]
          by_cases h0 : i = 0
          · rw [if_pos (show nI i = 0 by rw [h0]; rfl), if_pos hin]
            exact set I2 J2 true _ _ M2 (fun _ _ _ => rfl) (by rw [gd, decide_eq_true h0]; rfl)
          · rw [if_neg (show ¬ nI i = 0 from fun q => h0 ((nI_eq (b := 0) (by omega) (by decide)).mp q))]
            exact stand i _ (by omega) h0 rfl
        | true =>
          rw [if_neg (show ¬ cd_tf true = 0 by decide)]
          by_cases h0 : i = 0
          · rw [if_pos (show nI i = 0 by rw [h0]; rfl), if_pos hin]
            exact set I2 J2 true _ _ M2 (fun _ _ _ => rfl) (by rw [gd, decide_eq_true h0]; rfl)
          · rw [if_neg (show ¬ nI i = 0 from fun q => h0 ((nI_eq (b := 0) (by omega) (by decide)).mp q))]
            exact stand (ce_an (2 ^ c - 1) i) _ (by omega) h0 rfl
      show cw L w (cd_go 117 40 [.ref 21, .ref 5, .ref (cd_ple w), .ref 45, .int (nI hand), .int (cd_tf dn), .int (nI (2 ^ c - 1)), .int (zI (((i + 1 : Nat) : Int) - 1)), v8, v9] [] (cd_mm L w I2 J2)) _
      rw [show ((i + 1 : Nat) : Int) - 1 = (i : Int) by omega, zI_n]
      refine cw_m (fun _ => cd_s117_40 hp) ?_
      rw [if_neg (nI_pos (by omega))]
      by_cases hia : i = 2 ^ c - 1
      · rw [if_pos (by rw [hia])]
        exact at50 (by rw [lead, decide_eq_true hia]; rfl)
      · rw [if_neg (fun q => hia ((nI_eq (by omega) (by omega)).mp q)), cp_115 (S := S) (F := F) (mem := mem) hc g5 (by omega) (fun x h1 h2 => g29 x (by omega) h2), cw_bi]
        rw [decide_eq_false hia, Bool.false_or] at lead
        refine cw_m (fun _ => cd_s117_48 hp) ?_
        cases hni : cf_ni S F mem (D 0 2) c i with
        | some m =>
          obtain ⟨_, g2, _, _⟩ := ce_fst_some hni
          rw [if_neg (show ¬ cd_oi (some m) = -1 from fun e => by
            rw [show cd_oi (some m) = nI m from rfl, show (-1 : Int32) = zI (-1) from rfl, ← zI_n, zI_eq (by omega) (by omega) (by decide) (by decide)] at e
            omega)]
          exact at50 (by rw [lead, hni]; rfl)
        | none =>
          rw [hni] at lead
          have hgd : cf_gd S F mem (D 0 2) c i = false := by
            unfold cf_gd
            rw [lead]
            rfl
          rw [if_pos (show cd_oi none = -1 from rfl), if_pos hin, nI_clamp (by omega)]
          cases dn with
          | false =>
            rw [if_pos (show cd_tf false = 0 from rfl)]
            exact set I2 J2 false _ _ M2 (fun _ _ _ => rfl) hgd
          | true =>
            rw [if_neg (show ¬ cd_tf true = 0 by decide), if_pos hin]
            exact set I2 J2 false _ _ M2 (fun _ _ _ => rfl) hgd
  -- the members
  refine cw_up (L := L) (w := w) (Q := Q) (fun k (I1 : Nat → Nat → Int32) => cd_go 117 5 [.ref 21, .ref 5, .ref (cd_ple w), .ref 45, .int (nI hand), .int (cd_tf dn), .int (nI k), .null, .null, .null] [] (cd_mm L w I1 J)) (fun k I1 => (∀ a j, ¬ (a = 30 ∨ a = 21 ∧ j = 5) → I1 a j = I a j) ∧ I1 21 5 = nI (fa_cnt (cd_held S) k) ∧ ∃ mem, cf_mem S k (fa_cnt (cd_held S) k) mem ∧ ∀ i, i < fa_cnt (cd_held S) k → I1 30 i = nI (mem i)) (D 0 2) ?_ ?_ 0 (cd_up I 21 5 0) (Nat.zero_le _) ⟨fun a j hn => cd_up_k2 (by omega), cd_up_s, fun _ => 0, ⟨rfl, fun i hi => absurd hi (Nat.not_lt_zero i), fun i j _ hj => absurd hj (Nat.not_lt_zero j), fun k hk => absurd hk (Nat.not_lt_zero k)⟩, fun i hi => absurd hi (Nat.not_lt_zero i)⟩
  · intro I1 ⟨f1, g5, mem, hm, g30⟩
    have M1 : cf_M D S Y w I1 J := hM.of hK (fun a k hn => f1 a k (by omega))
    have hp1 : 0 < 2 ^ fa_cnt (cd_held S) (D 0 2) := ce_2pos
    refine cw_m (fun _ => cd_s117_5 hp) ?_
    rw [M1.1.1.1.2.2.1, if_neg (fun q => Int32.lt_irrefl q), g5, show (1 : Int32) <<< (nI (fa_cnt (cd_held S) (D 0 2)) &&& 31) = nI (2 ^ fa_cnt (cd_held S) (D 0 2)) from cw_sh1 (by omega), show (1 : Int32) = nI 1 from rfl, cw_subc (by omega)]
    exact judge _ mem I1 hm h7 M1 (fun a j hn => f1 a j (by omega)) g5 g30
  · intro k I1 hk ⟨f1, g5, mem, hm, g30⟩ K
    have M1 : cf_M D S Y w I1 J := hM.of hK (fun a k hn => f1 a k (by omega))
    have hcs := ce_cnt_s (cd_held S) k
    have hle : fa_cnt (cd_held S) (k + 1) ≤ fa_cnt (cd_held S) (D 0 2) := by
      obtain ⟨e, he⟩ : ∃ e, D 0 2 = k + 1 + e := ⟨D 0 2 - (k + 1), by omega⟩
      rw [he, cb_cnt_add _ (k + 1) e]
      omega
    refine cw_m (fun _ => cd_s117_5 hp) ?_
    rw [M1.1.1.1.2.2.1, if_pos (nI_lt hk (by omega)), cp_59 (Or.inr rfl) M1.1.2.1.1.2 hl2 (by omega), cw_bi]
    refine cw_m (fun _ => cd_s117_12 hp) ?_
    rw [nI_1]
    cases hb : (S 0 2).testBit k with
    | false =>
      have hb : cd_held S k = false := hb
      rw [hb, if_neg (by decide), Nat.add_zero] at hcs
      rw [if_pos (show cd_tf false = 0 from rfl)]
      refine K I1 ⟨f1, by rw [hcs]; exact g5, mem, ⟨rfl, fun i hi => ?_, fun i j h1 h2 => hm.2.2.1 i j h1 (by rw [hcs] at h2; exact h2), fun k' hk' hh => ?_⟩, fun i hi => g30 i (by rw [hcs] at hi; exact hi)⟩
      · obtain ⟨a, b⟩ := hm.2.1 i (by rw [hcs] at hi; exact hi)
        exact ⟨by omega, b⟩
      · have : k' ≠ k := fun q => by rw [q, hb] at hh; cases hh
        obtain ⟨i, h1, h2⟩ := hm.2.2.2 k' (by omega) hh
        exact ⟨i, by rw [hcs]; exact h1, h2⟩
    | true =>
      have hb : cd_held S k = true := hb
      rw [hb, if_pos rfl] at hcs
      have hin : cd_in (nI (fa_cnt (cd_held S) k)) 7 = true := cd_inN (by omega) (by decide)
      rw [if_neg (show ¬ cd_tf true = 0 by decide), g5, if_pos (show nI (fa_cnt (cd_held S) k) < 7 from nI_lt (b := 7) (by omega) (by decide)), if_pos hin, nI_clamp (by omega), cd_up_a (show (21 : Nat) ≠ 30 by decide), g5, nI_1]
      generalize hcc : fa_cnt (cd_held S) k = cc at *
      refine K (cd_up (cd_up I1 30 cc (nI k)) 21 5 (nI (cc + 1))) ⟨fun a j hn => (cd_up_k2 (by omega)).trans ((cd_up_a (by omega)).trans (f1 a j hn)), by rw [hcs]; exact cd_up_s, fun i => if i = cc then k else mem i, ⟨rfl, fun i hi => ?_, fun i j h1 h2 => ?_, fun k' hk' hh => ?_⟩, fun i hi => ?_⟩
      · rw [hcs] at hi
        show (if i = cc then k else mem i) < k + 1 ∧ cd_held S (if i = cc then k else mem i) = true
        by_cases hic : i = cc
        · rw [if_pos hic]
          exact ⟨by omega, hb⟩
        · rw [if_neg hic]
          obtain ⟨a, b⟩ := hm.2.1 i (by omega)
          exact ⟨by omega, b⟩
      · rw [hcs] at h2
        have hic : i ≠ cc := by omega
        show (if i = cc then k else mem i) < (if j = cc then k else mem j)
        rw [if_neg hic]
        by_cases hjc : j = cc
        · rw [if_pos hjc]
          exact (hm.2.1 i (by omega)).1
        · rw [if_neg hjc]
          exact hm.2.2.1 i j h1 (by omega)
      · by_cases hkk : k' = k
        · exact ⟨cc, by rw [hcs]; omega, by
            show (if cc = cc then k else mem cc) = k'
            rw [if_pos rfl, hkk]⟩
        · obtain ⟨i, h1, h2⟩ := hm.2.2.2 k' (by omega) hh
          refine ⟨i, by rw [hcs]; omega, ?_⟩
          show (if i = cc then k else mem i) = k'
          rw [if_neg (by omega)]
          exact h2
      · rw [hcs] at hi
        rw [cd_up_a (by decide)]
        show _ = nI (if i = cc then k else mem i)
        by_cases hic : i = cc
        · subst hic
          rw [cd_up_s, if_pos rfl]
        · rw [cd_up_k hic, if_neg hic]
          exact g30 i (by omega)
theorem cp_118o (hM : cf_M D S Y w I J) {x y z : Int32} (hx : ce_ix x 5 = false) : cw L w (cd_c 118 [.ref 2, .int x, .int y, .int z] (cd_mm L w I J)) (cf_post (.int (-1002)) D S Y w I) := by
  refine cw_c (l := [_, _, _, _]) rfl rfl ?_
  refine cw_m (fun _ => cd_s118_0) ?_
  refine cw_if (fun _ => cw_ret ⟨rfl, hM, cf_fr.rf⟩) (fun q1 => ?_)
  refine cw_if (fun _ => cw_ret ⟨rfl, hM, cf_fr.rf⟩) (fun q2 => ?_)
  rcases cf_ix_f (by decide) hx with q | q
  · exact absurd q q1
  · exact absurd ((cf_gt (n := 4) (by decide)).mpr q) q2
theorem cp_118 (hK : ce_ok D S Y) (hM : cf_M D S Y w I J) {hand : Nat} {dn : Bool} {z : Int32} (hh : hand < 5) : cw L w (cd_c 118 [.ref 2, .int (nI hand), .int (cd_tf dn), .int z] (cd_mm L w I J)) (cf_post (.int (if fa_cnt (cd_held S) (D 0 2) ≤ 7 then ce_orA D S hand dn z else -1003)) D S Y w I) := by
  have h12 := hK.1.1.2.2.1
  have hl := hK.2.1.1.2.2.1
  have hl2 : S 0 2 < 4096 := Nat.lt_of_lt_of_le hl (Nat.le_trans (Nat.pow_le_pow_right (by decide) h12) (by decide))
  have hcl := fa_cnt_le (cd_held S) (D 0 2)
  refine cw_c (l := [_, _, _, _]) rfl rfl ?_
  refine cw_m (fun _ => cd_s118_0) ?_
  rw [if_neg (nI_pos (by omega)), if_neg (show ¬ (4 : Int32) < nI hand from fun q => (cf_gt (n := 4) (by decide)).mp q (nI_lt hh (by decide))), hM.1.2.1.1.2, cp_47 hl2, cf_cnt_low hl h12, cw_bi]
  refine cw_m (fun _ => cd_s118_11) ?_
  show cw L w (if 7 < nI (fa_cnt (cd_held S) (D 0 2)) then _ else _) _
  by_cases h7 : fa_cnt (cd_held S) (D 0 2) ≤ 7
  · rw [if_pos h7, if_neg (show ¬ (7 : Int32) < nI (fa_cnt (cd_held S) (D 0 2)) from fun x => by
      have := (nI_ltI (a := 7) (by decide) (by omega)).mp x
      omega)]
    refine cw_ci (cw_mono (cp_117 hK hM (dn := dn) hh h7) ?_)
    intro v I1 J1 ⟨hv, M1, f1, g5, g31⟩
    refine ⟨_, hv, ?_⟩
    refine cw_m (fun _ => cd_s118_26) ?_
    unfold ce_orA
    cases hgg : ce_gg (ce_oF D S dn hand) (D 0 2) (S 0 2) with
    | false =>
      rw [if_pos (show cd_tf false = 0 from rfl), if_neg (by decide)]
      exact cw_ret ⟨rfl, M1, f1⟩
    | true =>
      rw [if_neg (show ¬ cd_tf true = 0 by decide), if_pos rfl, g5]
      refine cw_if (fun h => ?_) (fun h => ?_)
      · rw [if_pos h]
        exact cw_ret ⟨rfl, M1, f1⟩
      rw [if_neg h]
      cases hx : ce_ix z (fa_cnt (cd_held S) (D 0 2)) with
      | false =>
        rw [if_neg (show ¬ false = true by decide)]
        rcases cf_ix_f (by omega) hx with q | q
        · rw [if_pos q]; exact cw_ret ⟨rfl, M1, f1⟩
        · refine cw_if (fun _ => cw_ret ⟨rfl, M1, f1⟩) (fun _ => ?_)
          rw [if_neg q]
          exact cw_ret ⟨rfl, M1, f1⟩
      | true =>
        obtain ⟨j, hj, rfl⟩ := ce_ix_t hx
        rw [if_pos rfl, if_neg (nI_pos (by omega)), if_pos (nI_lt hj (by omega)), if_pos (cd_inN (by omega) (by decide)), nI_clamp (by omega), g31 hgg j hj]
        exact cw_ret ⟨rfl, M1, f1⟩
  · rw [if_neg h7, if_pos (show (7 : Int32) < nI (fa_cnt (cd_held S) (D 0 2)) from nI_lt (a := 7) (by omega) (by omega))]
    exact cw_ret ⟨rfl, hM, cf_fr.rf⟩
end CGZ
