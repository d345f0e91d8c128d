/-! ===== the class: findMost ===== -/
section CGT
variable {L : Nat} {w : Bool} {I : Nat → Nat → Int32} {J : Nat → Nat → Int64} {D : cd_D} {S : cd_S}
variable {Y : ce_Y}
/-- what a try may write -/
def cf_fr110 (I I1 : Nat → Nat → Int32) : Prop := ∀ a j, ¬ (a = 5 ∨ 8 ≤ a ∧ a ≤ 13 ∨ 15 ≤ a ∧ a ≤ 20 ∨ a = 21 ∧ (j = 6 ∨ j = 7) ∨ 22 ≤ a ∧ a ≤ 28) → I1 a j = I a j
theorem cp_110L (hK : ce_ok D S Y) (hM : cf_M D S Y w I J) (h7 : D 0 2 ≤ 7) {h pg bk : Nat} (h1 : 1 ≤ h) (h2 : h ≤ 20) (hpg : pg ≤ 12) (hbk : bk ≤ 12) : cw L w (cd_go 110 33 [.ref 21, .ref 5, .ref (cd_ple w), .ref 45, .int (nI h), .int (nI pg), .int (nI bk), .long (lN (cf_key S (D 0 0))), .null, .int 1, .int 0, .null] [] (cd_mm L w (cd_up I 21 6 (-1)) J)) (fun v I1 J1 => v = none ∧ cf_M D S Y w I1 J1 ∧ cf_fr I I1 ∧ I1 21 6 = zI (ce_mo D S h pg bk (3 ^ D 0 2)).1 ∧ I1 21 7 = nI (ce_mo D S h pg bk (3 ^ D 0 2)).2) := by
  have hp := cf_ple w
  have h8 := hK.1.1.1
  have hpw := ce_pw3 h7
  have hp0 : 0 < 3 ^ D 0 2 := Nat.pow_pos (by decide)
  have hU := hK.2.2.1.2.2.2.1
  -- the rows
  have main : cw L w (cd_go 110 48 [.ref 21, .ref 5, .ref (cd_ple w), .ref 45, .int (nI h), .int (nI pg), .int (nI bk), .long (lN (cf_key S (D 0 0))), .null, .int (nI (3 ^ D 0 2)), .int (nI 0), .null] [] (cd_mm L w (cd_up I 21 6 (-1)) J)) (fun v I1 J1 => v = none ∧ cf_M D S Y w I1 J1 ∧ cf_fr I I1 ∧ I1 21 6 = zI (ce_mo D S h pg bk (3 ^ D 0 2)).1 ∧ I1 21 7 = nI (ce_mo D S h pg bk (3 ^ D 0 2)).2) := by
    have go := cw_up (L := L) (w := w) (Q := fun v I1 J1 => v = none ∧ cf_M D S Y w I1 J1 ∧ cf_fr I I1 ∧ I1 21 6 = zI (ce_mo D S h pg bk (3 ^ D 0 2)).1 ∧ I1 21 7 = nI (ce_mo D S h pg bk (3 ^ D 0 2)).2) (fun i (y : (Nat → Nat → Int32) × (Nat → Nat → Int64) × Value) => cd_go 110 48 [.ref 21, .ref 5, .ref (cd_ple w), .ref 45, .int (nI h), .int (nI pg), .int (nI bk), .long (lN (cf_key S (D 0 0))), .null, .int (nI (3 ^ D 0 2)), .int (nI i), y.2.2] [] (cd_mm L w y.1 y.2.1)) (fun i y => (∀ a j, a ≠ 7 → y.2.1 a j = J a j) ∧ cf_fr110 I y.1 ∧ cf_C D (cf_R D) y.1 y.2.1 ∧ y.1 21 6 = zI (ce_mo D S h pg bk i).1 ∧ ((ce_mo D S h pg bk i).1 = -1 ∨ y.1 21 7 = nI (ce_mo D S h pg bk i).2)) (3 ^ D 0 2) ?_ ?_ 0 (cd_up I 21 6 (-1), J, .null) (Nat.zero_le _) ⟨fun _ _ _ => rfl, fun a j hn => cd_up_k2 (by omega), hM.2.of (fun a k g1 g2 => cd_up_k2 (by omega)) (fun _ => rfl), (by
      show cd_up I 21 6 (-1) 21 6 = _
      rw [cd_up_s]
      rfl), Or.inl rfl⟩
    · exact go
    · intro ⟨I1, J1, v11⟩ ⟨fJ, f1, C1, g6, g7⟩
      replace fJ : ∀ a j, a ≠ 7 → J1 a j = J a j := fJ
      replace f1 : cf_fr110 I I1 := f1
      replace g6 : I1 21 6 = zI (ce_mo D S h pg bk (3 ^ D 0 2)).1 := g6
      replace g7 : (ce_mo D S h pg bk (3 ^ D 0 2)).1 = -1 ∨ I1 21 7 = nI (ce_mo D S h pg bk (3 ^ D 0 2)).2 := g7
      have g7' : I1 21 7 = nI (ce_mo D S h pg bk (3 ^ D 0 2)).2 := by
        rcases g7 with q | q
        · obtain ⟨m, hm⟩ : ∃ m, 3 ^ D 0 2 = m + 1 := ⟨3 ^ D 0 2 - 1, by omega⟩
          have := cf_mo_1 (D := D) (S := S) (h := h) (p := pg) (q := bk) m
          rw [← hm, q] at this
          exact absurd this (by decide)
        · exact q
      show cw L w (cd_go 110 48 _ _ (cd_mm L w I1 J1)) _
      refine cw_m (fun _ => cd_s110_48 hp) ?_
      rw [if_neg (fun q => Int32.lt_irrefl q)]
      have r : ∀ a j, a ≠ 21 → cd_up (cd_up (cd_up (cd_up I1 21 8 1) 21 10 (nI h)) 21 11 (nI pg)) 21 12 (nI bk) a j = I1 a j := fun a j hn => by rw [cd_up_a hn, cd_up_a hn, cd_up_a hn, cd_up_a hn]
      have rJ : ∀ a j, a ≠ 21 → cd_up J1 21 9 (lN (cf_key S (D 0 0))) a j = J1 a j := fun a j hn => cd_up_a hn
      have r6 : cd_up (cd_up (cd_up (cd_up I1 21 8 1) 21 10 (nI h)) 21 11 (nI pg)) 21 12 (nI bk) 21 6 = zI (ce_mo D S h pg bk (3 ^ D 0 2)).1 := by
        rw [cd_up_k (by decide), cd_up_k (by decide), cd_up_k (by decide), cd_up_k (by decide)]
        exact g6
      have r7 : cd_up (cd_up (cd_up (cd_up I1 21 8 1) 21 10 (nI h)) 21 11 (nI pg)) 21 12 (nI bk) 21 7 = nI (ce_mo D S h pg bk (3 ^ D 0 2)).2 := by
        rw [cd_up_k (by decide), cd_up_k (by decide), cd_up_k (by decide), cd_up_k (by decide)]
        exact g7'
      obtain ⟨⟨a, b, c, d, e⟩, g⟩ := hM
      refine cw_ret ⟨rfl, ⟨⟨a.of (fun a k x1 x2 => (r a k (by omega)).trans (f1 a k (by omega))) (fun k => (rJ _ _ (by omega)).trans (fJ _ _ (by omega))), b.of (fun a k x1 x2 => (r a k (by omega)).trans (f1 a k (by omega))), (r _ _ (by decide)).trans ((f1 _ _ (by omega)).trans c), d.of hU (fun a k x => (r a k (by omega)).trans (f1 a k (by omega))), Or.inr ⟨?_, h7, S, h, pg, bk, hK.2.1.1, h2, hpg, hbk, cd_up_s, ?_, ?_, cd_up_s, r6, r7⟩⟩, C1.of (fun a k x1 x2 => r a k (by omega)) (fun k => rJ _ _ (by decide))⟩, fun a k x => (r a k (by omega)).trans (f1 a k (by omega)), r6, r7⟩
      · rw [cd_up_k (by decide), cd_up_k (by decide), cd_up_k (by decide), cd_up_s]
        rfl
      · rw [cd_up_k (by decide), cd_up_k (by decide), cd_up_s]
      · rw [cd_up_k (by decide), cd_up_s]
    · intro i ⟨I1, J1, v11⟩ hi ⟨fJ, f1, C1, g6, g7⟩ K
      replace fJ : ∀ a j, a ≠ 7 → J1 a j = J a j := fJ
      replace f1 : cf_fr110 I I1 := f1
      replace C1 : cf_C D (cf_R D) I1 J1 := C1
      replace g6 : I1 21 6 = zI (ce_mo D S h pg bk i).1 := g6
      replace g7 : (ce_mo D S h pg bk i).1 = -1 ∨ I1 21 7 = nI (ce_mo D S h pg bk i).2 := g7
      have hmo : ce_mo D S h pg bk (i + 1) = if ce_fits D (ce_hb D S i 3) pg bk && decide ((ce_mo D S h pg bk i).1 < (ce_gs (ce_rm D (ce_run D 60 (ce_hb D S i 3) none 0).2 h) : Int)) then ((ce_gs (ce_rm D (ce_run D 60 (ce_hb D S i 3) none 0).2 h) : Int), i) else ce_mo D S h pg bk i := rfl
      have hfit : ce_fits D (ce_hb D S i 3) pg bk = (decide (fa_cnt (fun k => Nat.beq (i / 3 ^ (D 0 2 - 1 - k) % 3) 1) (D 0 2) ≤ pg) && decide (fa_cnt (fun k => Nat.beq (i / 3 ^ (D 0 2 - 1 - k) % 3) 2) (D 0 2) ≤ bk)) := rfl
      have c1 := fa_cnt_le (fun k => Nat.beq (i / 3 ^ (D 0 2 - 1 - k) % 3) 1) (D 0 2)
      have c2 := fa_cnt_le (fun k => Nat.beq (i / 3 ^ (D 0 2 - 1 - k) % 3) 2) (D 0 2)
      have hmb := cf_mo_b (D := D) (S := S) (h := h) (p := pg) (q := bk) i
      have hP1 := hM.1.1.of (I1 := I1) (J1 := J1) (fun a k x1 x2 => f1 a k (by omega)) (fun k => fJ _ _ (by omega))
      have hQ1 := hM.1.2.1.of (I1 := I1) (fun a k x1 x2 => f1 a k (by omega))
      have skip : ∀ (I2 : Nat → Nat → Int32) (J2 : Nat → Nat → Int64) (v : Value), (∀ a j, a ≠ 7 → J2 a j = J a j) → cf_fr110 I I2 → cf_C D (cf_R D) I2 J2 → I2 21 6 = I1 21 6 → I2 21 7 = I1 21 7 → (ce_fits D (ce_hb D S i 3) pg bk && decide ((ce_mo D S h pg bk i).1 < (ce_gs (ce_rm D (ce_run D 60 (ce_hb D S i 3) none 0).2 h) : Int))) = false → cw L w (cd_go 110 48 [.ref 21, .ref 5, .ref (cd_ple w), .ref 45, .int (nI h), .int (nI pg), .int (nI bk), .long (lN (cf_key S (D 0 0))), .null, .int (nI (3 ^ D 0 2)), .int (nI i + 1), v] [] (cd_mm L w I2 J2)) (fun v I1 J1 => v = none ∧ cf_M D S Y w I1 J1 ∧ cf_fr I I1 ∧ I1 21 6 = zI (ce_mo D S h pg bk (3 ^ D 0 2)).1 ∧ I1 21 7 = nI (ce_mo D S h pg bk (3 ^ D 0 2)).2) := fun I2 J2 v q1 q2 q3 q4 q5 q6 => by
        rw [nI_1]
        refine K (I2, J2, v) ⟨q1, q2, q3, ?_, ?_⟩
        · rw [hmo, q6, if_neg (by decide)]
          exact q4.trans g6
        · rw [hmo, q6, if_neg (by decide)]
          exact g7.imp id (fun x => q5.trans x)
      show cw L w (cd_go 110 48 [.ref 21, .ref 5, .ref (cd_ple w), .ref 45, .int (nI h), .int (nI pg), .int (nI bk), .long (lN (cf_key S (D 0 0))), .null, .int (nI (3 ^ D 0 2)), .int (nI i), v11] [] (cd_mm L w I1 J1)) _
      refine cw_m (fun _ => cd_s110_48 hp) ?_
      rw [if_pos (nI_lt hi (by omega)), hP1.1.2.2.1, show (1 : Int32) = nI 1 from rfl, cp_106 (by decide) (by omega) (by omega), cw_bi]
      refine cw_m (fun _ => cd_s110_56 hp) ?_
      refine cw_if (fun q => ?_) (fun q => ?_)
      · have q := (nI_ltI (by omega) (by omega)).mp q
        refine skip I1 J1 _ fJ f1 C1 rfl rfl ?_
        rw [hfit, decide_eq_false (by omega), Bool.false_and, Bool.false_and]
      have q1 : fa_cnt (fun k => Nat.beq (i / 3 ^ (D 0 2 - 1 - k) % 3) 1) (D 0 2) ≤ pg := Nat.le_of_not_lt (fun x => q (nI_lt x (by omega)))
      rw [hP1.1.2.2.1, show (2 : Int32) = nI 2 from rfl, cp_106 (by decide) (by omega) (by omega), cw_bi]
      refine cw_m (fun _ => cd_s110_63 hp) ?_
      refine cw_if (fun q => ?_) (fun q => ?_)
      · have q := (nI_ltI (by omega) (by omega)).mp q
        refine skip I1 J1 _ fJ f1 C1 rfl rfl ?_
        rw [hfit, decide_eq_false (show ¬ fa_cnt (fun k => Nat.beq (i / 3 ^ (D 0 2 - 1 - k) % 3) 2) (D 0 2) ≤ bk by omega), Bool.and_false, Bool.false_and]
      have q2 : fa_cnt (fun k => Nat.beq (i / 3 ^ (D 0 2 - 1 - k) % 3) 2) (D 0 2) ≤ bk := Nat.le_of_not_lt (fun x => q (nI_lt x (by omega)))
      refine cw_cv (cw_mono (cp_108 hp hK.1 hK.2.1.1 hP1 hQ1 (by omega)) ?_)
      intro v I2 J2 ⟨hv, hJ2, f2, Q2⟩
      have hJ2 := hJ2.symm
      subst hJ2
      refine ⟨hv, ?_⟩
      refine cw_m (fun _ => cd_s110_70 hp) ?_
      have T2 := ce_hb_ok (row := i) (base := 3) hK.2.1 (Or.inr rfl)
      refine cw_cv (cw_mono (cp_82 (o := none) (b := 0) hp (Or.inl rfl) (Or.inl rfl) hK.1 T2 (hP1.tr hp f2) Q2 (C1.of (fun a k x1 x2 => f2 a k (by omega)) (fun _ => rfl)) (fun u x => by cases x) (by decide)) ?_)
      intro v I3 J3 ⟨hv, fJ3, f3, C3, Q3, _⟩
      refine ⟨hv, ?_⟩
      have T3 := ce_run_okT 60 none 0 T2
      generalize hS3 : (ce_run D 60 (ce_hb D S i 3) none 0).2 = S3 at *
      have hP3 := hP1.of (I1 := I3) (J1 := J3) (fun a k x1 x2 => (f3 a k (by omega)).trans (f2 a k (by omega))) (fun k => fJ3 _ _ (by omega))
      refine cw_m (fun _ => cd_s110_79 hp) ?_
      refine cw_ci (cw_mono (cp_109 hp (Or.inl rfl) hK.1 T3.1 T3.2.2.1 hP3 Q3 C3 h1 h2) ?_)
      intro v I4 J4 ⟨hv, fJ4, f4, C4⟩
      refine ⟨_, hv, ?_⟩
      have f4' : ∀ a j, ¬ (a = 5 ∨ 8 ≤ a ∧ a ≤ 13 ∨ 15 ≤ a ∧ a ≤ 20 ∨ 22 ≤ a ∧ a ≤ 28) → I4 a j = I1 a j := fun a j hn => (f4 a j (by omega)).trans ((f3 a j (by omega)).trans (f2 a j (by omega)))
      have fJ4' : ∀ a j, a ≠ 7 → J4 a j = J a j := fun a j hn => (fJ4 a j hn).trans ((fJ3 a j hn).trans (fJ a j hn))
      have hgs := ce_gs_b (P := ce_rm D S3 h)
      refine cw_m (fun _ => cd_s110_86 hp) ?_
      rw [f4' 21 6 (by omega), g6, ← zI_n (ce_gs (ce_rm D S3 h))]
      have hlt : (zI (ce_mo D S h pg bk i).1 < zI ((ce_gs (ce_rm D S3 h) : Nat) : Int)) ↔ (ce_mo D S h pg bk i).1 < ((ce_gs (ce_rm D S3 h) : Nat) : Int) := zI_lt (by omega) (by omega) (by omega) (by omega)
      have hft : ce_fits D (ce_hb D S i 3) pg bk = true := by rw [hfit, decide_eq_true q1, decide_eq_true q2]; rfl
      refine cw_if (fun q => ?_) (fun q => ?_)
      · have q := hlt.mp q
        have r : ∀ a j, ¬ (a = 21 ∧ (j = 6 ∨ j = 7)) → cd_up (cd_up I4 21 6 (zI ((ce_gs (ce_rm D S3 h) : Nat) : Int))) 21 7 (nI i) a j = I4 a j := fun a j hn => by rw [cd_up_k2 (by omega), cd_up_k2 (by omega)]
        rw [nI_1]
        refine K (cd_up (cd_up I4 21 6 (zI ((ce_gs (ce_rm D S3 h) : Nat) : Int))) 21 7 (nI i), J4, _) ⟨fJ4', fun a j hn => (r a j (by omega)).trans ((f4' a j (by omega)).trans (f1 a j hn)), C4.of (fun a k x1 x2 => r a k (by omega)) (fun _ => rfl), ?_, Or.inr ?_⟩
        · rw [hmo, hft, Bool.true_and, decide_eq_true q, if_pos rfl]
          show cd_up (cd_up I4 21 6 (zI ((ce_gs (ce_rm D S3 h) : Nat) : Int))) 21 7 (nI i) 21 6 = _
          rw [cd_up_k (by decide), cd_up_s]
        · rw [hmo, hft, Bool.true_and, decide_eq_true q, if_pos rfl]
          show cd_up (cd_up I4 21 6 (zI ((ce_gs (ce_rm D S3 h) : Nat) : Int))) 21 7 (nI i) 21 7 = nI i
          rw [cd_up_s]
      · have q3 : ¬ (ce_mo D S h pg bk i).1 < ((ce_gs (ce_rm D S3 h) : Nat) : Int) := fun x => q (hlt.mpr x)
        refine skip I4 J4 _ fJ4' (fun a j hn => (f4' a j (by omega)).trans (f1 a j hn)) C4 (f4' _ _ (by omega)) (f4' _ _ (by omega)) ?_
        rw [decide_eq_false q3, Bool.and_false]
  have go := cw_up (L := L) (w := w) (Q := fun v I1 J1 => v = none ∧ cf_M D S Y w I1 J1 ∧ cf_fr I I1 ∧ I1 21 6 = zI (ce_mo D S h pg bk (3 ^ D 0 2)).1 ∧ I1 21 7 = nI (ce_mo D S h pg bk (3 ^ D 0 2)).2) (fun i (_ : Unit) => cd_go 110 33 [.ref 21, .ref 5, .ref (cd_ple w), .ref 45, .int (nI h), .int (nI pg), .int (nI bk), .long (lN (cf_key S (D 0 0))), .null, .int (nI (3 ^ i)), .int (nI i), .null] [] (cd_mm L w (cd_up I 21 6 (-1)) J)) (fun _ _ => True) (D 0 2) ?_ ?_ 0 () (Nat.zero_le _) trivial
  · exact go
  · intro _ _
    refine cw_m (fun _ => cd_s110_33 hp) ?_
    rw [cd_up_k2 (by omega), hM.1.1.1.2.2.1, if_neg (fun q => Int32.lt_irrefl q)]
    exact main
  · intro i _ hi _ K
    refine cw_m (fun _ => cd_s110_33 hp) ?_
    rw [cd_up_k2 (by omega), hM.1.1.1.2.2.1, if_pos (nI_lt hi (by omega)), if_pos (show nI i < 7 from nI_lt (b := 7) (by omega) (by decide)), show (3 : Int32) = nI 3 from rfl, pk_mul, ← Nat.pow_succ, nI_1]
    exact K () trivial
theorem cp_110 (hK : ce_ok D S Y) (hM : cf_M D S Y w I J) (h7 : D 0 2 ≤ 7) {h pg bk : Nat} (h1 : 1 ≤ h) (h2 : h ≤ 20) (hpg : pg ≤ 12) (hbk : bk ≤ 12) : cw L w (cd_c 110 [.ref 21, .ref 5, .ref (cd_ple w), .ref 45, .int (nI h), .int (nI pg), .int (nI bk)] (cd_mm L w I J)) (fun v I1 J1 => v = none ∧ cf_M D S Y w I1 J1 ∧ cf_fr I I1 ∧ I1 21 6 = zI (ce_mo D S h pg bk (3 ^ D 0 2)).1 ∧ I1 21 7 = nI (ce_mo D S h pg bk (3 ^ D 0 2)).2) := by
  have hp := cf_ple w
  have h8 := hK.1.1.1
  have slow := cp_110L (L := L) hK hM h7 h1 h2 hpg hbk
  refine cw_c (l := [.ref 21, .ref 5, .ref (cd_ple w), .ref 45, .int (nI h), .int (nI pg), .int (nI bk), .null, .null, .null, .null, .null]) (by cases w <;> rfl) (by cases w <;> rfl) ?_
  refine cw_m (fun _ => cd_s110_0 hp) ?_
  rw [hM.1.1.1.1, cp_50 (Or.inr rfl) hM.1.2.1 hK.2.1.1 h8, cw_bl]
  refine cw_m (fun _ => cd_s110_4 hp) ?_
  refine cw_if (fun _ => slow) (fun q8 => ?_)
  refine cw_if (fun qk => ?_) (fun _ => slow)
  refine cw_if (fun qh => ?_) (fun _ => slow)
  refine cw_if (fun qp => ?_) (fun _ => slow)
  refine cw_if (fun qb => ?_) (fun _ => slow)
  rcases hM.1.2.2.2.2 with g | ⟨_, _, T, h', p', b', t1, t2, t3, t4, t5, t6, t7, t8, t9, t10⟩
  · exact absurd g q8
  · rw [t6] at qh
    rw [t7] at qp
    rw [t8] at qb
    have qh := (nI_eq (by omega) (by omega)).mp qh
    have qp := (nI_eq (by omega) (by omega)).mp qp
    have qb := (nI_eq (by omega) (by omega)).mp qb
    subst qh qp qb
    have kl : ∀ T : cd_S, cd_okS D T → cf_key T (D 0 0) < 2 ^ 56 := fun T hT => Nat.lt_of_lt_of_le (cf_key_lt (D 0 0) hT.1) (by
      rw [show (128 : Nat) = 2 ^ 7 from rfl, ← Nat.pow_mul]
      exact Nat.pow_le_pow_right (by decide) (by omega))
    have k1 := kl T t1
    have k2 := kl S hK.2.1.1
    rw [t5, lg_cmp_eq, ce_lNeq (by omega) (by omega)] at qk
    have inj := cf_key_inj (D 0 0) t1.1 hK.2.1.1.1 qk
    have e := cf_mo_eq hK.1 (S := T) (T := S) (fun t ht => (inj t ht).1) (by
      apply Nat.eq_of_testBit_eq
      intro i
      by_cases hi : i < D 0 0
      · exact (inj i hi).2
      · rw [cf_low t1.2.1 (by omega), cf_low hK.2.1.1.2.1 (by omega)]) h' p' b' (3 ^ D 0 2)
    rw [e] at t9 t10
    exact cw_ret ⟨rfl, hM, cf_fr.rf, t9, t10⟩
theorem cp_112u (hK : ce_ok D S Y) (hM : cf_M D S Y w I J) {x y z u : Int32} (h1 : ¬ u = -1) (h2 : ce_ix u (D 0 2) = false) : cw L w (cd_c 112 [.ref 2, .int x, .int y, .int z, .int u] (cd_mm L w I J)) (cf_post (.int (-1001)) D S Y w I) := by
  refine cw_c (l := [_, _, _, _, _]) rfl rfl ?_
  refine cw_m (fun _ => cd_s112_0) ?_
  rw [if_neg h1, cp_64 hM.1.1 hK.1, cw_bi, h2]
  refine cw_m (fun _ => cd_s112_6) ?_
  rw [if_pos (show cd_tf false = 0 from rfl)]
  exact cw_ret ⟨rfl, hM, cf_fr.rf⟩
theorem cp_112s (hK : ce_ok D S Y) (hM : cf_M D S Y w I J) {x y z u : Int32} {Q : Option Value → (Nat → Nat → Int32) → (Nat → Nat → Int64) → Prop} (h1 : u = -1 ∨ ce_ix u (D 0 2) = true) (h : cw L w (cd_go 112 11 [.ref 2, .int x, .int y, .int z, .int u] [.int (cd_tf (ce_ih x))] (cd_mm L w I J)) Q) : cw L w (cd_c 112 [.ref 2, .int x, .int y, .int z, .int u] (cd_mm L w I J)) Q := by
  have nx : cw L w (cd_go 112 9 [.ref 2, .int x, .int y, .int z, .int u] [] (cd_mm L w I J)) Q := by
    refine cw_m (fun _ => cd_s112_9) ?_
    rw [cp_88, cw_bi]
    exact h
  refine cw_c (l := [_, _, _, _, _]) rfl rfl ?_
  refine cw_m (fun _ => cd_s112_0) ?_
  refine cw_if (fun _ => nx) (fun q => ?_)
  rcases h1 with h1 | h1
  · exact absurd h1 q
  · rw [cp_64 hM.1.1 hK.1, cw_bi, h1]
    refine cw_m (fun _ => cd_s112_6) ?_
    rw [if_neg (show ¬ cd_tf true = 0 by decide)]
    exact nx
theorem cf_13 {x : Int32} (h : ce_ix x 13 = false) : x < 0 ∨ 12 < x := by
  rcases cf_ix_f (by decide) h with q | q
  · exact Or.inl q
  · exact Or.inr ((cf_gt (n := 12) (by decide)).mpr q)
theorem cf_13t {x : Int32} (h : ce_ix x 13 = true) : ¬ x < 0 ∧ ¬ (12 : Int32) < x := by
  obtain ⟨t, ht, rfl⟩ := ce_ix_t h
  exact ⟨nI_pos (by omega), fun q => (cf_gt (n := 12) (by decide)).mp q (nI_lt ht (by decide))⟩
theorem cp_112o (hK : ce_ok D S Y) (hM : cf_M D S Y w I J) {x y z u : Int32} (h1 : u = -1 ∨ ce_ix u (D 0 2) = true) (hx : ce_ih x = false ∨ ce_ix y 13 = false ∨ ce_ix z 13 = false) : cw L w (cd_c 112 [.ref 2, .int x, .int y, .int z, .int u] (cd_mm L w I J)) (cf_post (.int (-1002)) D S Y w I) := by
  refine cp_112s hK hM h1 ?_
  refine cw_m (fun _ => cd_s112_11) ?_
  refine cw_if (fun _ => cw_ret ⟨rfl, hM, cf_fr.rf⟩) (fun q1 => ?_)
  refine cw_if (fun _ => cw_ret ⟨rfl, hM, cf_fr.rf⟩) (fun q2 => ?_)
  refine cw_if (fun _ => cw_ret ⟨rfl, hM, cf_fr.rf⟩) (fun q3 => ?_)
  refine cw_if (fun _ => cw_ret ⟨rfl, hM, cf_fr.rf⟩) (fun q4 => ?_)
  refine cw_if (fun _ => cw_ret ⟨rfl, hM, cf_fr.rf⟩) (fun q5 => ?_)
  rcases hx with h | h | h
  · rw [h] at q1; exact absurd rfl q1
  · rcases cf_13 h with q | q
    · exact absurd q q2
    · exact absurd q q3
  · rcases cf_13 h with q | q
    · exact absurd q q4
    · exact absurd q q5
theorem cp_112r (hK : ce_ok D S Y) (hM : cf_M D S Y w I J) {x y z u : Int32} (h1 : u = -1 ∨ ce_ix u (D 0 2) = true) (hx : ce_ih x = true) (hy : ce_ix y 13 = true) (hz : ce_ix z 13 = true) {Q : Option Value → (Nat → Nat → Int32) → (Nat → Nat → Int64) → Prop} (h : cw L w (if 7 < nI (D 0 2) then some (some (.int (-1003)), cd_mm L w I J) else (cd_cv (cd_c 110 [.ref 21, .ref 5, .ref (cd_ple w), .ref 45, .int x, .int y, .int z] (cd_mm L w I J))).bind fun m => cd_go 112 43 [.ref 2, .int x, .int y, .int z, .int u] [] m) Q) : cw L w (cd_c 112 [.ref 2, .int x, .int y, .int z, .int u] (cd_mm L w I J)) Q := by
  refine cp_112s hK hM h1 ?_
  refine cw_m (fun _ => cd_s112_11) ?_
  have y0 := cf_13t hy
  have z0 := cf_13t hz
  rw [hx, if_neg (show ¬ cd_tf true = 0 by decide), if_neg y0.1, if_neg y0.2, if_neg z0.1, if_neg z0.2, hM.1.1.1.2.2.1]
  exact h
theorem cp_112m (hK : ce_ok D S Y) (hM : cf_M D S Y w I J) {x y z u : Int32} (h1 : u = -1 ∨ ce_ix u (D 0 2) = true) (hx : ce_ih x = true) (hy : ce_ix y 13 = true) (hz : ce_ix z 13 = true) (h7 : 7 < D 0 2) : cw L w (cd_c 112 [.ref 2, .int x, .int y, .int z, .int u] (cd_mm L w I J)) (cf_post (.int (-1003)) D S Y w I) := by
  have h12 := hK.1.1.2.2.1
  refine cp_112r hK hM h1 hx hy hz ?_
  rw [if_pos (show (7 : Int32) < nI (D 0 2) from nI_lt (a := 7) h7 (by omega))]
  exact cw_ret ⟨rfl, hM, cf_fr.rf⟩
theorem cp_112 (hK : ce_ok D S Y) (hM : cf_M D S Y w I J) {h p q : Nat} {o : Option Nat} (ho : ∀ k, o = some k → k < D 0 2) (h1 : 1 ≤ h) (h2 : h ≤ 20) (hp : p < 13) (hq : q < 13) (h7 : D 0 2 ≤ 7) : cw L w (cd_c 112 [.ref 2, .int (nI h), .int (nI p), .int (nI q), .int (cd_oi o)] (cd_mm L w I J)) (cf_post (.int (ce_mA D S h p q o)) D S Y w I) := by
  have hpw := ce_pw3 h7
  have hmb := cf_mo_b (D := D) (S := S) (h := h) (p := p) (q := q) (3 ^ D 0 2)
  refine cp_112r hK hM ?_ (ce_ih_n h1 h2) (ce_ix_n hp (by decide)) (ce_ix_n hq (by decide)) ?_
  · cases o with
    | none => exact Or.inl rfl
    | some k => exact Or.inr (ce_ix_n (ho k rfl) (by omega))
  rw [if_neg (show ¬ (7 : Int32) < nI (D 0 2) from fun x => by
    have := (nI_ltI (a := 7) (by decide) (by omega)).mp x
    omega)]
  refine cw_cv (cw_mono (cp_110 hK hM h7 h1 h2 (by omega) (by omega)) ?_)
  intro v I1 J1 ⟨hv, M1, f1, g6, g7⟩
  refine ⟨hv, ?_⟩
  refine cw_m (fun _ => cd_s112_43) ?_
  cases o with
  | none =>
    rw [if_pos (show cd_oi none = -1 from rfl), g6]
    refine cw_m (fun _ => cd_s112_58) ?_
    exact cw_ret ⟨rfl, M1, f1⟩
  | some k =>
    have hk := ho k rfl
    rw [if_neg (show ¬ cd_oi (some k) = -1 from fun e => by
      rw [show cd_oi (some k) = nI k from rfl, show (-1 : Int32) = zI (-1) from rfl, ← zI_n, zI_eq (by omega) (by omega) (by decide) (by decide)] at e
      omega), g7, M1.1.1.1.2.2.1]
    show cw L w ((cd_ci (cd_c 111 [.int (nI (ce_mo D S h p q (3 ^ D 0 2)).2), .int (nI k), .int (nI (D 0 2))] (cd_mm L w I1 J1))).bind _) _
    rw [cp_111 (by omega) hk (by omega), cw_bi]
    refine cw_m (fun _ => cd_s112_58) ?_
    exact cw_ret ⟨rfl, M1, f1⟩
end CGT
