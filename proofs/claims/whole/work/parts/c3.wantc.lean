/-! ===== the class: a want's text ===== -/
section CWT
variable {L : Nat} {w : Bool} {I : Nat → Nat → Int32} {J : Nat → Nat → Int64} {D : cd_D} {S : cd_S}
variable {x : Nat → Nat} {n q g : Nat}
theorem cf_wdr_ne {s m : Nat} {r1 r2 : List Nat} (h : ce_wdr x s m r1 = true) (i : Nat) (hne : r1.length ≠ r2.length ∨ i < r1.length ∧ r1.getD (r1.length - 1 - i) 0 ≠ r2.getD (r2.length - 1 - i) 0) : ce_wdr x s m r2 = false := by
  cases h2 : ce_wdr x s m r2 with
  | false => rfl
  | true =>
    obtain ⟨e1, g1⟩ := (cf_wdr _ _).mp h
    obtain ⟨e2, g2⟩ := (cf_wdr _ _).mp h2
    rcases hne with hne | ⟨hi, hne⟩
    · omega
    · have := g1 i hi
      rw [g2 i (by omega)] at this
      exact absurd this.symm hne
theorem cf_ww (v : Nat) (hv : 1 ≤ v ∧ v ≤ 4) : ce_ww x (ce_sk x n q) (ce_we x n (ce_sk x n q) - ce_sk x n q) = some v ↔ cf_isw x n q (cd_str (1010 + v)).reverse = true := by
  have e : ce_ww x (ce_sk x n q) (ce_we x n (ce_sk x n q) - ce_sk x n q) = if cf_isw x n q (cd_str 1011).reverse then some 1 else if cf_isw x n q (cd_str 1012).reverse then some 2 else if cf_isw x n q (cd_str 1013).reverse then some 3 else if cf_isw x n q (cd_str 1014).reverse then some 4 else none := rfl
  rw [e]
  constructor
  · intro h
    split at h
    · cases h; assumption
    · split at h
      · cases h; assumption
      · split at h
        · cases h; assumption
        · split at h
          · cases h; assumption
          · cases h
  · intro h
    have ex : ∀ k i, ((cd_str (1010 + v)).reverse.length ≠ (cd_str k).reverse.length ∨ i < (cd_str (1010 + v)).reverse.length ∧ (cd_str (1010 + v)).reverse.getD ((cd_str (1010 + v)).reverse.length - 1 - i) 0 ≠ (cd_str k).reverse.getD ((cd_str k).reverse.length - 1 - i) 0) → cf_isw x n q (cd_str k).reverse = false := fun k i hne => cf_wdr_ne h i hne
    have hv4 : v = 1 ∨ v = 2 ∨ v = 3 ∨ v = 4 := by omega
    rcases hv4 with rfl | rfl | rfl | rfl
    · rw [if_pos h]
    · rw [ex 1011 0 (by decide), if_neg (by decide), if_pos h]
    · rw [ex 1011 0 (by decide), if_neg (by decide), ex 1012 1 (by decide), if_neg (by decide), if_pos h]
    · rw [ex 1011 0 (by decide), if_neg (by decide), ex 1012 0 (by decide), if_neg (by decide), ex 1013 0 (by decide), if_neg (by decide), if_pos h]
theorem cf_pV_skip {f c : Nat} {V : Nat → Nat} (h : ce_ww x (ce_sk x n q) (ce_we x n (ce_sk x n q) - ce_sk x n q) ≠ some (c + 1)) : ce_pV x n (f + 1) c q V = ce_pV x n (f + 1) (c + 1) q V := by
  unfold ce_pV
  by_cases hs : ce_sk x n q < n
  · rw [if_pos hs, if_pos hs]
    cases hw : ce_ww x (ce_sk x n q) (ce_we x n (ce_sk x n q) - ce_sk x n q) with
    | none => rfl
    | some v =>
      rw [hw] at h
      have hv : v ≠ c + 1 := fun e => h (by rw [e])
      dsimp only
      by_cases hc : c < v
      · rw [if_pos hc, if_pos (by omega)]
      · rw [if_neg hc, if_neg (by omega)]
  · rw [if_neg hs, if_neg hs]
theorem cf_pV_take {f c : Nat} {V : Nat → Nat} (hs : ce_sk x n q < n) (h : ce_ww x (ce_sk x n q) (ce_we x n (ce_sk x n q) - ce_sk x n q) = some (c + 1)) : ce_pV x n (f + 1) c q V = ce_bd (ce_pU x n (ce_we x n (ce_sk x n q)) (c + 1)) fun a => ce_pV x n f (c + 1) a.2 (fun k => if k = c + 1 then a.1 else V k) := by
  have e : ce_pV x n (f + 1) c q V = if ce_sk x n q < n then (match ce_ww x (ce_sk x n q) (ce_we x n (ce_sk x n q) - ce_sk x n q) with
    | none => .error (1, ce_sk x n q)
    | some v => if c < v then ce_bd (ce_pU x n (ce_we x n (ce_sk x n q)) v) fun a => ce_pV x n f v a.2 (fun k => if k = v then a.1 else V k) else .error (1, ce_sk x n q)) else .ok V := rfl
  rw [e, if_pos hs, h]
  dsimp only
  rw [if_pos (Nat.lt_succ_self c)]
theorem cf_isw_lt {r : List Nat} (hr : 0 < r.length) (hq : q ≤ n) (h : cf_isw x n q r = true) : ce_sk x n q < n := by
  have hsl := cf_sk_le (x := x) hq
  have h2 := (cf_wdr _ _).mp h
  by_cases hs : ce_sk x n q < n
  · exact hs
  · have := (cf_we_b (x := x) hsl).2
    omega
def cf_f6 (I I1 : Nat → Nat → Int32) : Prop := ∀ a k, ¬ (a = 3 ∧ 2 ≤ k) → a ≠ 65 → I1 a k = I a k
theorem cf_f6.f3 {I I1 I2 : Nat → Nat → Int32} (h : cf_f6 I I1) (g : cf_f3 I1 I2) : cf_f6 I I2 := fun a k h1 h2 => (g a k h1).trans (h a k h1 h2)
theorem cf_f6.up {I I1 : Nat → Nat → Int32} (h : cf_f6 I I1) (k : Nat) (v : Int32) : cf_f6 I (cd_up I1 65 k v) := fun a k2 h1 h2 => by rw [cd_up_a h2]; exact h a k2 h1 h2
def cf_q43 (I : Nat → Nat → Int32) (J : Nat → Nat → Int64) (r : Except (Nat × Nat) (Nat → Nat)) : Option Value → (Nat → Nat → Int32) → (Nat → Nat → Int64) → Prop := fun v I1 J1 => v = none ∧ J1 = J ∧ cf_f6 I I1 ∧ match r with
  | .ok V => (I1 3 7 = nI 0 ∧ I1 3 8 = zI (-1)) ∧ ∀ k, k < 5 → I1 65 k = nI (V k)
  | .error (f, p) => cf_Fl f p I1
theorem cf_K.u5 {I : Nat → Nat → Int32} (h : cf_K x n q I) {k : Nat} {v : Int32} : cf_K x n q (cd_up I 65 k v) := h.of (fun a j g => cd_up_a (by omega))
theorem cf_Fl.u5 {f p : Nat} {I : Nat → Nat → Int32} (h : cf_Fl f p I) {k : Nat} {v : Int32} : cf_Fl f p (cd_up I 65 k v) := h.of (fun j g => cd_up_a (by decide))
end CWT
section CWU
variable {L : Nat} {w : Bool} {I : Nat → Nat → Int32} {J : Nat → Nat → Int64} {D : cd_D} {S : cd_S}
variable {x : Nat → Nat} {n q g : Nat} {I0 : Nat → Nat → Int32}
/-- a fault runs on to the end -/
theorem cp_43f4 {f : Nat} (hF : cf_Fl f g I) (fI : cf_f6 I0 I) : cw L w ((cd_ci (cd_c 19 [.ref 3] (cd_mm L w I J))).bind fun q => cd_go 43 51 [.ref 65, .ref 3] [.int q.1] q.2) (cf_q43 I0 J (.error (f, g))) := by
  rw [cp_19f hF, cw_bi]
  refine cw_m (fun _ => cd_s43_51 (by decide)) ?_
  rw [if_pos rfl]
  refine cw_m (fun _ => cd_s43_57 (by decide)) ?_
  exact cw_ret ⟨rfl, rfl, fI, hF⟩
theorem cp_43f3 {f : Nat} (hF : cf_Fl f g I) (fI : cf_f6 I0 I) : cw L w ((cd_ci (cd_c 21 [.ref 3, .ref 1014] (cd_mm L w I J))).bind fun q => cd_go 43 48 [.ref 65, .ref 3] [.int q.1, .ref 65] q.2) (cf_q43 I0 J (.error (f, g))) := by
  rw [cp_21f hF, cw_bi]
  refine cw_m (fun _ => cd_s43_48 (by decide)) ?_
  rw [if_pos (show (0 : Int32) &&& 1 = 0 by decide)]
  exact cp_43f4 hF.u5 (fI.up _ _)
theorem cp_43f2 {f : Nat} (hF : cf_Fl f g I) (fI : cf_f6 I0 I) : cw L w ((cd_ci (cd_c 21 [.ref 3, .ref 1013] (cd_mm L w I J))).bind fun q => cd_go 43 43 [.ref 65, .ref 3] [.int q.1, .ref 65] q.2) (cf_q43 I0 J (.error (f, g))) := by
  rw [cp_21f hF, cw_bi]
  refine cw_m (fun _ => cd_s43_43 (by decide)) ?_
  rw [if_pos (show (0 : Int32) &&& 1 = 0 by decide)]
  exact cp_43f3 hF.u5 (fI.up _ _)
theorem cp_43f1 {f : Nat} (hF : cf_Fl f g I) (fI : cf_f6 I0 I) : cw L w ((cd_ci (cd_c 21 [.ref 3, .ref 1012] (cd_mm L w I J))).bind fun q => cd_go 43 31 [.ref 65, .ref 3] [.int q.1, .ref 65] q.2) (cf_q43 I0 J (.error (f, g))) := by
  rw [cp_21f hF, cw_bi]
  refine cw_m (fun _ => cd_s43_31 (by decide)) ?_
  rw [if_pos rfl]
  exact cp_43f2 hF.u5 (fI.up _ _)
theorem cp_43f0 {f : Nat} (hF : cf_Fl f g I) (fI : cf_f6 I0 I) : cw L w ((cd_ci (cd_c 21 [.ref 3, .ref 1011] (cd_mm L w I J))).bind fun q => cd_go 43 19 [.ref 65, .ref 3] [.int q.1, .ref 65] q.2) (cf_q43 I0 J (.error (f, g))) := by
  rw [cp_21f hF, cw_bi]
  refine cw_m (fun _ => cd_s43_19 (by decide)) ?_
  rw [if_pos rfl]
  exact cp_43f1 hF.u5 (fI.up _ _)
theorem cp_43s4 (hK : cf_K x n q I) (hq : q ≤ n) (fI : cf_f6 I0 I) {V : Nat → Nat} (hV : ∀ k, k < 5 → I 65 k = nI (V k)) {f : Nat} : cw L w ((cd_ci (cd_c 19 [.ref 3] (cd_mm L w I J))).bind fun q => cd_go 43 51 [.ref 65, .ref 3] [.int q.1] q.2) (cf_q43 I0 J (ce_pV x n (f + 1) 4 q V)) := by
  have e : ce_pV x n (f + 1) 4 q V = if ce_sk x n q < n then .error (1, ce_sk x n q) else .ok V := by
    unfold ce_pV
    by_cases hs : ce_sk x n q < n
    · rw [if_pos hs, if_pos hs]
      cases hw : ce_ww x (ce_sk x n q) (ce_we x n (ce_sk x n q) - ce_sk x n q) with
      | none => rfl
      | some v =>
        have := ce_ww_b hw
        dsimp only
        rw [if_neg (by omega)]
    · rw [if_neg hs, if_neg hs]
  rw [e, cp_19 hK hq, cw_bi]
  refine cw_m (fun _ => cd_s43_51 (by decide)) ?_
  by_cases hs : ce_sk x n q < n
  · rw [decide_eq_true hs, if_neg (show ¬ cd_tf true = 0 by decide), if_pos hs, hK.2.2.1, show (1 : Int32) = nI 1 from rfl, cp_22 hK.2.1.1, cw_bv]
    refine cw_m (fun _ => cd_s43_57 (by decide)) ?_
    exact cw_ret ⟨rfl, rfl, fun a k h1 h2 => by rw [cd_up_k2 (by omega), cd_up_k2 (by omega)]; exact fI a k h1 h2, cf_bl (by decide) (by decide)⟩
  · rw [decide_eq_false hs, if_pos (show cd_tf false = 0 from rfl), if_neg hs]
    refine cw_m (fun _ => cd_s43_57 (by decide)) ?_
    exact cw_ret ⟨rfl, rfl, fI, hK.2.1, hV⟩
theorem cp_43s3 (hn : n ≤ 500) (hx : ∀ k, x k < 256) (hK : cf_K x n q I) (hq : q ≤ n) (fI : cf_f6 I0 I) {V : Nat → Nat} (hV : ∀ k, k < 4 → I 65 k = nI (V k)) (h4 : V 4 = 0) {f : Nat} : cw L w ((cd_ci (cd_c 21 [.ref 3, .ref 1014] (cd_mm L w I J))).bind fun q => cd_go 43 48 [.ref 65, .ref 3] [.int q.1, .ref 65] q.2) (cf_q43 I0 J (ce_pV x n (f + 2) 3 q V)) := by
  cases h : cf_isw x n q (cd_str 1014).reverse with
  | true =>
    have hs := cf_isw_lt (by decide) hq h
    rw [cf_pV_take hs ((cf_ww 4 (by decide)).mpr h)]
    refine cw_ci (cw_mono (cp_21 hn hx hK hq (by decide) h) ?_)
    intro v I1 J1 ⟨hv, hJ1, f1, K1⟩
    have hJ1 := hJ1.symm
    subst hJ1
    refine ⟨1, hv, ?_⟩
    refine cw_m (fun _ => cd_s43_48 (by decide)) ?_
    rw [if_pos (show (1 : Int32) &&& 1 = 1 by decide)]
    show cw L w _ (cf_q43 I0 _ (ce_pV x n (f + 1) 4 (ce_we x n (ce_sk x n q)) (fun k => if k = 4 then 1 else V k)))
    refine cp_43s4 (V := fun k => if k = 4 then 1 else V k) K1.u5 (cf_we_b (cf_sk_le hq)).2 ((fI.f3 f1).up _ _) (fun k hk => ?_)
    show _ = nI (if k = 4 then 1 else V k)
    by_cases h4 : k = 4
    · rw [if_pos h4, h4, cd_up_s]; rfl
    · rw [if_neg h4, cd_up_k h4, f1 _ _ (by omega)]
      exact hV k (by omega)
  | false =>
    rw [cf_pV_skip (fun e => by rw [(cf_ww 4 (by decide)).mp e] at h; cases h), cp_21n hn hx hK hq (by decide) h, cw_bi]
    refine cw_m (fun _ => cd_s43_48 (by decide)) ?_
    rw [if_pos (show (0 : Int32) &&& 1 = 0 by decide)]
    refine cp_43s4 hK.u5 hq (fI.up _ _) (fun k hk => ?_)
    by_cases hk4 : k = 4
    · rw [hk4, cd_up_s, h4]; rfl
    · rw [cd_up_k hk4]
      exact hV k (by omega)
theorem cp_43s2 (hn : n ≤ 500) (hx : ∀ k, x k < 256) (hK : cf_K x n q I) (hq : q ≤ n) (fI : cf_f6 I0 I) {V : Nat → Nat} (hV : ∀ k, k < 3 → I 65 k = nI (V k)) (h3 : V 3 = 0) (h4 : V 4 = 0) {f : Nat} : cw L w ((cd_ci (cd_c 21 [.ref 3, .ref 1013] (cd_mm L w I J))).bind fun q => cd_go 43 43 [.ref 65, .ref 3] [.int q.1, .ref 65] q.2) (cf_q43 I0 J (ce_pV x n (f + 3) 2 q V)) := by
  cases h : cf_isw x n q (cd_str 1013).reverse with
  | true =>
    have hs := cf_isw_lt (by decide) hq h
    rw [cf_pV_take hs ((cf_ww 3 (by decide)).mpr h)]
    refine cw_ci (cw_mono (cp_21 hn hx hK hq (by decide) h) ?_)
    intro v I1 J1 ⟨hv, hJ1, f1, K1⟩
    have hJ1 := hJ1.symm
    subst hJ1
    refine ⟨1, hv, ?_⟩
    refine cw_m (fun _ => cd_s43_43 (by decide)) ?_
    rw [if_pos (show (1 : Int32) &&& 1 = 1 by decide)]
    show cw L w _ (cf_q43 I0 _ (ce_pV x n (f + 2) 3 (ce_we x n (ce_sk x n q)) (fun k => if k = 3 then 1 else V k)))
    refine cp_43s3 (V := fun k => if k = 3 then 1 else V k) hn hx K1.u5 (cf_we_b (cf_sk_le hq)).2 ((fI.f3 f1).up _ _) (fun k hk => ?_) h4
    show _ = nI (if k = 3 then 1 else V k)
    by_cases hk3 : k = 3
    · rw [if_pos hk3, hk3, cd_up_s]; rfl
    · rw [if_neg hk3, cd_up_k hk3, f1 _ _ (by omega)]
      exact hV k (by omega)
  | false =>
    rw [cf_pV_skip (fun e => by rw [(cf_ww 3 (by decide)).mp e] at h; cases h), cp_21n hn hx hK hq (by decide) h, cw_bi]
    refine cw_m (fun _ => cd_s43_43 (by decide)) ?_
    rw [if_pos (show (0 : Int32) &&& 1 = 0 by decide)]
    refine cp_43s3 hn hx hK.u5 hq (fI.up _ _) (fun k hk => ?_) h4
    by_cases hk3 : k = 3
    · rw [hk3, cd_up_s, h3]; rfl
    · rw [cd_up_k hk3]
      exact hV k (by omega)
theorem cp_43s1 (hn : n ≤ 500) (hx : ∀ k, x k < 256) (hK : cf_K x n q I) (hq : q ≤ n) (fI : cf_f6 I0 I) {V : Nat → Nat} (hV : ∀ k, k < 2 → I 65 k = nI (V k)) (h2 : V 2 = 99) (h3 : V 3 = 0) (h4 : V 4 = 0) {f : Nat} : cw L w ((cd_ci (cd_c 21 [.ref 3, .ref 1012] (cd_mm L w I J))).bind fun q => cd_go 43 31 [.ref 65, .ref 3] [.int q.1, .ref 65] q.2) (cf_q43 I0 J (ce_pV x n (f + 4) 1 q V)) := by
  cases h : cf_isw x n q (cd_str 1012).reverse with
  | true =>
    have hs := cf_isw_lt (by decide) hq h
    rw [cf_pV_take hs ((cf_ww 2 (by decide)).mpr h)]
    refine cw_ci (cw_mono (cp_21 hn hx hK hq (by decide) h) ?_)
    intro v I1 J1 ⟨hv, hJ1, f1, K1⟩
    have hJ1 := hJ1.symm
    subst hJ1
    refine ⟨1, hv, ?_⟩
    refine cw_m (fun _ => cd_s43_31 (by decide)) ?_
    rw [if_neg (show ¬ (1 : Int32) = 0 by decide)]
    have hwe := (cf_we_b (x := x) (cf_sk_le (x := x) hq)).2
    have eU : ce_pU x n (ce_we x n (ce_sk x n q)) (1 + 1) = ce_bd (ce_num x n 0 100 (ce_we x n (ce_sk x n q))) fun a => .ok (a.1, a.2.2) := rfl
    rw [eU]
    refine cp_23 hn hx K1 hwe (lo := 0) (hi := 100) (by decide) (by decide) rfl rfl ?_ ?_
    · intro I2 u s e r2 f2 K2 _
      obtain ⟨_, _, _, he, _⟩ := ce_num_b hwe r2
      rw [r2]
      refine cw_m (fun _ => cd_s43_36 (by decide)) ?_
      show cw L w _ (cf_q43 I0 _ (ce_pV x n (f + 3) 2 e (fun k => if k = 2 then u else V k)))
      refine cp_43s2 (V := fun k => if k = 2 then u else V k) hn hx K2.u5 he (((fI.f3 f1).f3 f2).up _ _) (fun k hk => ?_) h3 h4
      show _ = nI (if k = 2 then u else V k)
      by_cases hk2 : k = 2
      · rw [if_pos hk2, hk2, cd_up_s]
      · rw [if_neg hk2, cd_up_k hk2, f2 _ _ (by omega), f1 _ _ (by omega)]
        exact hV k (by omega)
    · intro I2 fe ge r2 f2 F2
      rw [r2]
      refine cw_m (fun _ => cd_s43_36 (by decide)) ?_
      exact cp_43f2 F2.u5 (((fI.f3 f1).f3 f2).up _ _)
  | false =>
    rw [cf_pV_skip (fun e => by rw [(cf_ww 2 (by decide)).mp e] at h; cases h), cp_21n hn hx hK hq (by decide) h, cw_bi]
    refine cw_m (fun _ => cd_s43_31 (by decide)) ?_
    rw [if_pos rfl]
    refine cp_43s2 hn hx hK.u5 hq (fI.up _ _) (fun k hk => ?_) h3 h4
    by_cases hk2 : k = 2
    · rw [hk2, cd_up_s, h2]; rfl
    · rw [cd_up_k hk2]
      exact hV k (by omega)
theorem cp_43s0 (hn : n ≤ 500) (hx : ∀ k, x k < 256) (hK : cf_K x n q I) (hq : q ≤ n) (fI : cf_f6 I0 I) {V : Nat → Nat} (hV : I 65 0 = nI (V 0)) (h1 : V 1 = 5) (h2 : V 2 = 99) (h3 : V 3 = 0) (h4 : V 4 = 0) {f : Nat} : cw L w ((cd_ci (cd_c 21 [.ref 3, .ref 1011] (cd_mm L w I J))).bind fun q => cd_go 43 19 [.ref 65, .ref 3] [.int q.1, .ref 65] q.2) (cf_q43 I0 J (ce_pV x n (f + 5) 0 q V)) := by
  cases h : cf_isw x n q (cd_str 1011).reverse with
  | true =>
    have hs := cf_isw_lt (by decide) hq h
    rw [cf_pV_take hs ((cf_ww 1 (by decide)).mpr h)]
    refine cw_ci (cw_mono (cp_21 hn hx hK hq (by decide) h) ?_)
    intro v I1 J1 ⟨hv, hJ1, f1, K1⟩
    have hJ1 := hJ1.symm
    subst hJ1
    refine ⟨1, hv, ?_⟩
    refine cw_m (fun _ => cd_s43_19 (by decide)) ?_
    rw [if_neg (show ¬ (1 : Int32) = 0 by decide)]
    have hwe := (cf_we_b (x := x) (cf_sk_le (x := x) hq)).2
    have eU : ce_pU x n (ce_we x n (ce_sk x n q)) (0 + 1) = ce_bd (ce_num x n 1 21 (ce_we x n (ce_sk x n q))) fun a => .ok (a.1, a.2.2) := rfl
    rw [eU]
    refine cp_23 hn hx K1 hwe (lo := 1) (hi := 21) (by decide) (by decide) rfl rfl ?_ ?_
    · intro I2 u s e r2 f2 K2 _
      obtain ⟨_, _, _, he, _⟩ := ce_num_b hwe r2
      rw [r2]
      refine cw_m (fun _ => cd_s43_24 (by decide)) ?_
      show cw L w _ (cf_q43 I0 _ (ce_pV x n (f + 4) 1 e (fun k => if k = 1 then u else V k)))
      refine cp_43s1 (V := fun k => if k = 1 then u else V k) hn hx K2.u5 he (((fI.f3 f1).f3 f2).up _ _) (fun k hk => ?_) h2 h3 h4
      show _ = nI (if k = 1 then u else V k)
      by_cases hk2 : k = 1
      · rw [if_pos hk2, hk2, cd_up_s]
      · rw [if_neg hk2, cd_up_k hk2, f2 _ _ (by omega), f1 _ _ (by omega), show k = 0 by omega]
        exact hV
    · intro I2 fe ge r2 f2 F2
      rw [r2]
      refine cw_m (fun _ => cd_s43_24 (by decide)) ?_
      exact cp_43f1 F2.u5 (((fI.f3 f1).f3 f2).up _ _)
  | false =>
    rw [cf_pV_skip (fun e => by rw [(cf_ww 1 (by decide)).mp e] at h; cases h), cp_21n hn hx hK hq (by decide) h, cw_bi]
    refine cw_m (fun _ => cd_s43_19 (by decide)) ?_
    rw [if_pos rfl]
    refine cp_43s1 hn hx hK.u5 hq (fI.up _ _) (fun k hk => ?_) h2 h3 h4
    by_cases hk2 : k = 1
    · rw [hk2, cd_up_s, h1]; rfl
    · rw [cd_up_k hk2, show k = 0 by omega]
      exact hV
theorem cp_43 (hn : n ≤ 500) (hx : ∀ k, x k < 256) (hK : cf_K x n 0 I) : cw L w (cd_c 43 [.ref 65, .ref 3] (cd_mm L w I J)) (cf_q43 I J (ce_want x n)) := by
  have rf : cf_f6 I I := fun _ _ _ _ => rfl
  refine cw_c (l := [.ref 65, .ref 3]) rfl rfl ?_
  refine cw_m (fun _ => cd_s43_0 (by decide)) ?_
  have e : ce_want x n = if cf_isw x n 0 (cd_str 1010).reverse then ce_bd (ce_num x n 0 65 (ce_we x n (ce_sk x n 0))) fun a => ce_pV x n 5 0 a.2.2 (ce_V0 a.1) else .error (1, ce_sk x n 0) := rfl
  rw [e]
  cases h : cf_isw x n 0 (cd_str 1010).reverse with
  | true =>
    rw [if_pos rfl]
    refine cw_ci (cw_mono (cp_21 hn hx hK (Nat.zero_le _) (by decide) h) ?_)
    intro v I1 J1 ⟨hv, hJ1, f1, K1⟩
    have hJ1 := hJ1.symm
    subst hJ1
    refine ⟨1, hv, ?_⟩
    refine cw_m (fun _ => cd_s43_3 (by decide)) ?_
    rw [if_neg (show ¬ (1 : Int32) = 0 by decide)]
    refine cw_m (fun _ => cd_s43_9 (by decide)) ?_
    have hwe := (cf_we_b (x := x) (cf_sk_le (x := x) (Nat.zero_le n))).2
    refine cp_23 hn hx K1 hwe (lo := 0) (hi := 65) (by decide) (by decide) rfl rfl ?_ ?_
    · intro I2 u s e r2 f2 K2 _
      obtain ⟨_, _, _, he, _⟩ := ce_num_b hwe r2
      rw [r2]
      refine cw_m (fun _ => cd_s43_14 (by decide)) ?_
      show cw L w _ (cf_q43 I _ (ce_pV x n 5 0 e (ce_V0 u)))
      exact cp_43s0 (V := ce_V0 u) hn hx K2.u5 he (((rf.f3 f1).f3 f2).up _ _) cd_up_s rfl rfl rfl rfl (f := 0)
    · intro I2 fe ge r2 f2 F2
      rw [r2]
      refine cw_m (fun _ => cd_s43_14 (by decide)) ?_
      exact cp_43f0 F2.u5 (((rf.f3 f1).f3 f2).up _ _)
  | false =>
    rw [if_neg (show ¬ false = true by decide), cp_21n hn hx hK (Nat.zero_le _) (by decide) h, cw_bi]
    refine cw_m (fun _ => cd_s43_3 (by decide)) ?_
    have F : cf_Fl 1 (ce_sk x n 0) (cd_up (cd_up I 3 7 (nI 1)) 3 8 (nI (ce_sk x n 0))) := cf_bl (by decide) (by decide)
    rw [if_pos rfl, hK.2.2.1, show (1 : Int32) = nI 1 from rfl, cp_22 hK.2.1.1, cw_bv]
    refine cw_m (fun _ => cd_s43_9 (by decide)) ?_
    rw [cp_23f F, cw_bi]
    refine cw_m (fun _ => cd_s43_14 (by decide)) ?_
    exact cp_43f0 F.u5 ((rf.f3 cf_blf).up _ _)
end CWU
