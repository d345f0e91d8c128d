/-! ===== words that all methods may need ===== -/
set_option maxRecDepth 100000 in
theorem cd_w_nat : Cond.native arraycopyName ∈ cd_W := cd_isW_in (i := 769) (by decide +kernel)
set_option maxRecDepth 100000 in
theorem cd_w_sta : Cond.static arraycopyName ∈ cd_W := cd_isW_in (i := 768) (by decide +kernel)
set_option maxRecDepth 100000 in
theorem cd_w_ini : Cond.initialized "java/lang/System" ∈ cd_W := cd_isW_in (i := 112) (by decide +kernel)
set_option maxRecDepth 100000 in
theorem cd_w_oi : Cond.instanceMethod Lib.objectInit ∈ cd_W := cd_isW_in (i := 122) (by decide +kernel)
set_option maxRecDepth 100000 in
theorem cd_w_oc : Cond.code Lib.objectInit ⟨#[0xb1]⟩ 1 none ∈ cd_W := cd_isW_in (i := 123) (by decide +kernel)
set_option maxRecDepth 100000 in
theorem cd_w_aI : Cond.arrayClass .int ∈ cd_W := cd_isW_in (i := 165) (by decide +kernel)
set_option maxRecDepth 100000 in
theorem cd_w_aJ : Cond.arrayClass .long ∈ cd_W := cd_isW_in (i := 197) (by decide +kernel)
set_option maxRecDepth 100000 in
theorem cd_w_aZ : Cond.arrayClass .boolean ∈ cd_W := cd_isW_in (i := 366) (by decide +kernel)
set_option maxRecDepth 100000 in
theorem cd_w_Math : Cond.initialized "java/lang/Math" ∈ cd_W := cd_isW_in (i := 107) (by decide +kernel)
set_option maxRecDepth 100000 in
theorem cd_w_mabs : Cond.static Lib.Math.abs.name ∈ cd_W ∧ Cond.code Lib.Math.abs.name Lib.Math.abs.code 1 (some .int) ∈ cd_W := ⟨cd_isW_in (i := 842) (by decide +kernel), cd_isW_in (i := 843) (by decide +kernel)⟩
set_option maxRecDepth 100000 in
theorem cd_w_mmax : Cond.static Lib.Math.max.name ∈ cd_W ∧ Cond.code Lib.Math.max.name Lib.Math.max.code 2 (some .int) ∈ cd_W := ⟨cd_isW_in (i := 880) (by decide +kernel), cd_isW_in (i := 881) (by decide +kernel)⟩
set_option maxRecDepth 100000 in
theorem cd_w_mmin : Cond.static Lib.Math.min.name ∈ cd_W ∧ Cond.code Lib.Math.min.name Lib.Math.min.code 2 (some .int) ∈ cd_W := ⟨cd_isW_in (i := 619) (by decide +kernel), cd_isW_in (i := 620) (by decide +kernel)⟩
def cd_all12 (f : Nat → Bool) : Bool := (List.range 12).all f
theorem cd_all12_of {f : Nat → Bool} (h : cd_all12 f = true) {c : Nat} (hc : c < 12) : f c = true := List.all_eq_true.mp h c (List.mem_range.mpr hc)
set_option maxRecDepth 100000 in
theorem cd_c_lay : cd_all12 (fun c => (List.range (cd_nf c)).all (fun k => cd_isW ((cd_lw.getD c []).getD k 0) (u_lay (cd_cn c) (cd_T c) k))) = true := by decide +kernel
set_option maxRecDepth 100000 in
theorem cd_c_ty : cd_all12 (fun c => (List.range (cd_nf c)).all (fun k => decide (parseFieldDescriptor (cd_T c k).2.2.1 = some (cd_ft c k)))) = true := by decide +kernel
set_option maxRecDepth 100000 in
theorem cd_c_nm : cd_all12 (fun c => (List.range (cd_nf c)).all (fun a => (List.range (cd_nf c)).all (fun b => decide (a = b) || decide ((cd_T c a).2.1 ≠ (cd_T c b).2.1)))) = true := by decide +kernel
def cd_sh (t : FieldType) : Bool := match t with
  | .int => true
  | .boolean => true
  | .long => true
  | .object _ => true
  | .array _ => true
  | _ => false
set_option maxRecDepth 100000 in
theorem cd_c_sh : cd_all12 (fun c => (List.range (cd_nf c)).all (fun k => cd_sh (cd_ft c k))) = true := by decide +kernel
set_option maxRecDepth 100000 in
theorem cd_c_inst : cd_all12 (fun c => cd_isW (cd_inst.getD c 0) (.instantiable (cd_cn c) (cd_nf c)) && cd_isW (cd_init.getD c 0) (.initialized (cd_cn c))) = true := by decide +kernel
theorem cd_in_lay {c : Nat} (hc : c < 12) : ∀ w ∈ u_ws (cd_cn c) (cd_T c) (cd_nf c), w ∈ cd_W := by
  intro w hw
  obtain ⟨k, hk, rfl⟩ := List.mem_map.mp hw
  exact cd_isW_in (List.all_eq_true.mp (cd_all12_of cd_c_lay hc) k hk)
theorem cd_ty {c : Nat} (hc : c < 12) : ∀ k, k < cd_nf c → parseFieldDescriptor (cd_T c k).2.2.1 = some (cd_ft c k) := fun k hk =>
  of_decide_eq_true (List.all_eq_true.mp (cd_all12_of cd_c_ty hc) k (List.mem_range.mpr hk))
theorem cd_nm {c : Nat} (hc : c < 12) : ∀ a, a < cd_nf c → ∀ b, b < cd_nf c → a ≠ b → (cd_T c a).2.1 ≠ (cd_T c b).2.1 := by
  intro a ha b hb hab
  have h := List.all_eq_true.mp (List.all_eq_true.mp (cd_all12_of cd_c_nm hc) a (List.mem_range.mpr ha)) b (List.mem_range.mpr hb)
  simp only [Bool.or_eq_true, decide_eq_true_eq] at h
  exact h.resolve_left hab
theorem cd_shk {c : Nat} (hc : c < 12) {k : Nat} (hk : k < cd_nf c) : cd_sh (cd_ft c k) = true := List.all_eq_true.mp (cd_all12_of cd_c_sh hc) k (List.mem_range.mpr hk)
theorem cd_inst_w {c : Nat} (hc : c < 12) : Cond.instantiable (cd_cn c) (cd_nf c) ∈ cd_W ∧ Cond.initialized (cd_cn c) ∈ cd_W := by
  have h := cd_all12_of cd_c_inst hc
  rw [Bool.and_eq_true] at h
  exact ⟨cd_isW_in h.1, cd_isW_in h.2⟩
theorem cd_clk {c : Nat} (hc : c < 12) : cd_vc[c]? = some (cd_cn c, cd_T c, cd_nf c) := by
  unfold cd_vc
  rw [List.getElem?_map, List.getElem?_range hc]
  rfl
def cd_tys (G : cd_G) : List (ClassId × FieldType) := [(G.2.1 20, .int), (G.2.1 21, .long), (G.2.1 22, .boolean), (G.2.1 23, .object "ChairDen$State"), (G.2.1 24, .object "ChairDen$Want")]
/-- strings: the words' classes and places -/
def cd_nest : List Cond := (lw_tbl.filter fun w => match w with
  | .methodLinkNest .. => true
  | _ => false)
def cd_len : List Nat := cd_strs.map List.length
def cd_byt : List (List Int32) := cd_strs.map fun l => l.map nI
/-- what a state has beside the heap's new cells -/
def cd_Ev (G : cd_G) (s : State) (H : Heap) : Prop :=
  va_K G.1 cd_vc (cd_tys G) s ∧ va_AO "ChairDen$State" s ∧ va_AO "ChairDen$Want" s ∧ (∀ w ∈ cd_nest, va_Nw w s) ∧
  (∀ own idx tx, Cond.stringRef own idx tx ∈ lw_tbl → ∀ k, tx = String.ofList ((cd_str k).map Char.ofNat) → 1000 ≤ k → k < 1015 → vk_R own idx tx (cd_ad G k) s) ∧
  vk_S 15 cd_len cd_byt (fun i => cd_ad G (1000 + i)) G.2.2.2.2.2.1 (cd_A G) s H ∧ va_X G.2.2.1 G.2.2.2.2.2.2.1 G.2.2.2.2.2.2.2 s H ∧ G.2.2.1 < cd_bs G ∧ cd_bs G ≤ H.size ∧ G.2.2.2.2.2.2.1 < 2 ^ 31 ∧ va_Z "java/lang/String" "COMPACT_STRINGS" "Z" (.int 1) (cd_A G) s H ∧ va_Zq "jdk/internal/util/Preconditions" "SIOOBE_FORMATTER" "Ljava/util/function/BiFunction;" (cd_A G) s H
section CDM
variable {p : Program} {l : Launch} {e : Env} {R : Room} {s : State} {m : MethodId} {args : Array Value} {below : List Frame} {meth : Method} {c : Code} {Q : State → Prop} {G : cd_G} {y k0 s0 pc : Nat} {ls st : List Value} {M : cd_M}
theorem cd_o_get (X : cd_Cx p s m args c y) (E : cd_Ev G s s.heap) {i a t k : Nat} {v : Value} (hk : cd_k M a = t) (ht : t < 12) (hn : k < cd_nf t) (hw : Cond.fieldLink (cd_own y) i (cd_cn t) (cd_T t k).2.1 (cd_T t k).2.2.1 ∈ cd_W) (hd : decode (cd_cc y) pc = .ok (.getfield i, 3)) (hv : cd_fv G M t a k = cd_tv G v) (kk : cd_At p l e R s m args below meth c Q G y k0 s0 (pc + 3) ls (v :: st) M) : cd_At p l e R s m args below meth c Q G y k0 s0 pc ls (.ref a :: st) M := fun H locs lr hP hS hl => by
  obtain ⟨h2, hlt, -, cell, q1, q2, q3, q4⟩ := cd_obj hP hk ht
  rw [List.map_cons, cd_tv_ref (by omega)]
  obtain ⟨hSl, hfc, kC, hkC, hkind⟩ := E.1.1 t _ (cd_clk ht)
  obtain ⟨cf, kf, fi, f, hi, hsl⟩ := hSl k hn
  refine W.getf X.1 X.2.1 X.2.2.2.1 (X.2.2.2.2 _ hw) hi (u_facts hfc hkC (u_lays X.2.2.2.2 (cd_in_lay ht) hn) hi).1 q1 (by rw [q3]; exact fun h => by cases h) (v := cd_tv G v) ?_ rfl rfl hd (kk H locs lr hP hS hl)
  rw [hsl, q4 k hn, hv]
theorem cd_o_put (X : cd_Cx p s m args c y) (E : cd_Ev G s s.heap) (hnm : (cd_mn y).name = "<init>" → meth.name = "<init>") {i a t k : Nat} {v : Value} {M' : cd_M} (hk : cd_k M a = t) (ht : t < 12) (hn : k < cd_nf t) (hw : Cond.fieldLink (cd_own y) i (cd_cn t) (cd_T t k).2.1 (cd_T t k).2.2.1 ∈ cd_W) (hfin : (cd_T t k).2.2.2 = false ∨ ((cd_mn y).name = "<init>" ∧ cd_own y = cd_cn t)) (hd : decode (cd_cc y) pc = .ok (.putfield i, 3))
    (hnar : narrow (cd_ft t k) (cd_tv G v) = cd_tv G v) (hfit : fits (cd_ft t k) (cd_tv G v) = true) (hK : M'.1 = M.1) (hself : ∀ j, cd_fv G M' t a j = if j = k then cd_tv G v else cd_fv G M t a j)
    (hoth : ∀ a', a' ≠ a → (∀ k, cd_I M' a' k = cd_I M a' k) ∧ (∀ k, cd_L M' a' k = cd_L M a' k) ∧ ∀ k, cd_R M' a' k = cd_R M a' k) (kk : cd_At p l e R s m args below meth c Q G y k0 s0 (pc + 3) ls st M') : cd_At p l e R s m args below meth c Q G y k0 s0 pc ls (v :: .ref a :: st) M := fun H locs lr hP hS hl => by
  obtain ⟨h2, hlt, hn2, cell, q1, q2, q3, q4⟩ := cd_obj hP hk ht
  rw [List.map_cons, List.map_cons, cd_tv_ref (by omega)]
  have hap := va_apart (own := cd_own y) X.2.2.2.2 (cd_in_lay ht) (cd_ft t) (cd_ty ht) (cd_nm ht) E.1 (cd_clk ht)
  obtain ⟨hSl, hfc, kC, hkC, hkind⟩ := E.1.1 t _ (cd_clk ht)
  obtain ⟨cf, kf, fi, f, hi, hsl⟩ := hSl k hn
  have hst := (u_facts hfc hkC (u_lays X.2.2.2.2 (cd_in_lay ht) hn) hi).1
  have hlay := X.2.2.2.2 _ (cd_in_lay ht _ (u_in_lay hn))
  unfold u_lay at hlay
  have hcell : ∀ H1 : Heap, H1[cd_ad G a]? = some (cell.setSlot (G.1.2 t k) (cd_tv G v)) → cd_ce G M' a H1 := by
    intro H1 e1
    have kk' : cd_k M' a = t := by unfold cd_k; rw [hK]; exact hk
    have nn' : cd_n M' a = cd_n M a := by unfold cd_n; rw [hK]
    refine Or.inl ⟨by rw [kk']; exact ht, by rw [nn', kk']; exact hn2, ?_⟩
    rw [kk']
    exact t_OB.to (V := updV (cd_fv G M t a) k (cd_tv G v)) ⟨_, e1, q2, q3, t_set q4 hap hn _⟩ (fun j _ => by rw [hself j]; rfl)
  have hI1 : ∀ j, cd_I M' 1 j = cd_I M 1 j := fun j => (hoth 1 (by omega)).1 j
  have hA : cd_A G (cd_ad G a) := (cd_ad_of hP h2 hlt).2.1
  have sz : (M'.1.length - k0) = (M.1.length - k0) ∧ cd_sl M'.1 - s0 = cd_sl M.1 - s0 := by rw [hK]; exact ⟨rfl, rfl⟩
  have fin : ∀ H1 : Heap, H1[cd_ad G a]? = some (cell.setSlot f.slot (cd_tv G v)) → H1.size = H.size → (∀ q, q ≠ cd_ad G a → H1[q]? = H[q]?) → W p l e R s m args below meth c H1 (locs ++ [⟨cd_ad G a, f.slot⟩]) (M.1.length - k0) (cd_sl M.1 - s0) Q (F0 m (pc + 3) lr (st.map (cd_tv G))) := by
    intro H1 e1 e2 e3
    rw [hsl] at e1
    have h9 := kk H1 (locs ++ [⟨cd_ad G a, f.slot⟩]) lr (hP.put h2 hlt hK hI1 hoth e2 e3 (hcell H1 e1)) (hS.put e2 e3 hA) hl
    rw [sz.1, sz.2] at h9
    exact h9
  rcases Bool.eq_false_or_eq_true (cd_T t k).2.2.2 with hf | hf
  · rw [if_pos hf] at hlay
    have hfin' := hfin.resolve_left (by rw [hf]; exact fun h => by cases h)
    have hcf : m.cls = cf := by
      obtain ⟨_, _, c', _, _, _, -, -, hf', -, -, -, hown2, -⟩ := Cond.laysFinal_spec hlay
      have e1 : c' = cf := by have := hi.symm.trans hf'; simp at this; exact this.1.symm
      have h10 := X.2.2.2.1
      rw [hfin'.2] at h10
      rw [← e1]; exact Option.some.inj (h10.symm.trans hown2)
    have h6 := u_fits hfc hkC hkind (Or.inr hlay) hi (cd_ty ht k hn) hnar hfit
    exact W.putFinK X.1 X.2.1 X.2.2.2.1 (X.2.2.2.2 _ hw) hi hst hcf (hnm hfin'.1) (by rw [q2]; exact h6) q1 q3 (by rw [hsl]; exact k2_hasslot (q4 k hn)) rfl rfl hd fin
  · rw [if_neg (by rw [hf]; decide)] at hlay
    have h6 := u_store hfc hkC hkind hlay hi (cd_ty ht k hn) hnar hfit
    exact W.putK X.1 X.2.1 (f := f) ⟨X.2.2.2.1, X.2.2.2.2 _ hw, ⟨_, _, _, hi⟩, hst⟩ (by rw [q2]; exact h6) q1 q3 (by rw [hsl]; exact k2_hasslot (q4 k hn)) rfl rfl hd fin
theorem cd_in_of {j : Int32} {n : Nat} (h : cd_in j n = true) : ¬ (j < 0 ∨ n ≤ j.toNatClampNeg) := of_decide_eq_true h
theorem cd_ArrT (E : cd_Ev G s s.heap) {t : Nat} (h1 : 20 ≤ t) (h2 : t ≤ 24) : ArrOfT s (G.2.1 t) (cd_aty t) ∧ va_RA s (G.2.1 t) (cd_aty t) := by
  have h := E.1.2
  rcases (show t = 20 ∨ t = 21 ∨ t = 22 ∨ t = 23 ∨ t = 24 by omega) with rfl | rfl | rfl | rfl | rfl
  · exact h 0 _ rfl
  · exact h 1 _ rfl
  · exact h 2 _ rfl
  · exact h 3 _ rfl
  · exact h 4 _ rfl
theorem cd_o_iald (X : cd_Cx p s m args c y) (E : cd_Ev G s s.heap) {a : Nat} {j : Int32} (hk : cd_k M a = 20) (hj : cd_in j (cd_n M a) = true) (hd : decode (cd_cc y) pc = .ok (.iaload, 1)) (kk : cd_At p l e R s m args below meth c Q G y k0 s0 (pc + 1) ls (.int (cd_I M a j.toNatClampNeg) :: st) M) : cd_At p l e R s m args below meth c Q G y k0 s0 pc ls (.int j :: .ref a :: st) M := fun H locs lr hP hS hl => by
  obtain ⟨h2, hlt, hc⟩ := cd_arr hP hk (by omega) (by omega)
  rw [List.map_cons, List.map_cons, cd_tv_ref (by omega)]
  have hin := cd_in_of hj
  exact W.iald (v := .int (cd_I M a j.toNatClampNeg)) X.1 X.2.1 hc ((cd_ArrT E (t := 20) (by omega) (by omega)).1 _ _) (fun q => by cases q) (by rw [arrV_size]; exact hin) (by rw [arrV_read _ _ (Nat.not_le.mp fun q => hin (Or.inr q))]; rfl) rfl rfl hd (kk H locs lr hP hS hl)
theorem cd_o_zald (X : cd_Cx p s m args c y) (E : cd_Ev G s s.heap) {a : Nat} {j : Int32} (hk : cd_k M a = 22) (hj : cd_in j (cd_n M a) = true) (hd : decode (cd_cc y) pc = .ok (.baload, 1)) (kk : cd_At p l e R s m args below meth c Q G y k0 s0 (pc + 1) ls (.int (cd_I M a j.toNatClampNeg) :: st) M) : cd_At p l e R s m args below meth c Q G y k0 s0 pc ls (.int j :: .ref a :: st) M := fun H locs lr hP hS hl => by
  obtain ⟨h2, hlt, hc⟩ := cd_arr hP hk (by omega) (by omega)
  rw [List.map_cons, List.map_cons, cd_tv_ref (by omega)]
  have hin := cd_in_of hj
  exact W.zald (v := .int (cd_I M a j.toNatClampNeg)) X.1 X.2.1 hc ((cd_ArrT E (t := 22) (by omega) (by omega)).1 _ _) (fun q => by cases q) (by rw [arrV_size]; exact hin) (by rw [arrV_read _ _ (Nat.not_le.mp fun q => hin (Or.inr q))]; rfl) rfl rfl hd (kk H locs lr hP hS hl)
theorem cd_o_lald (X : cd_Cx p s m args c y) (E : cd_Ev G s s.heap) {a : Nat} {j : Int32} (hk : cd_k M a = 21) (hj : cd_in j (cd_n M a) = true) (hd : decode (cd_cc y) pc = .ok (.laload, 1)) (kk : cd_At p l e R s m args below meth c Q G y k0 s0 (pc + 1) ls (.long (cd_L M a j.toNatClampNeg) :: st) M) : cd_At p l e R s m args below meth c Q G y k0 s0 pc ls (.int j :: .ref a :: st) M := fun H locs lr hP hS hl => by
  obtain ⟨h2, hlt, hc⟩ := cd_arr hP hk (by omega) (by omega)
  rw [List.map_cons, List.map_cons, cd_tv_ref (by omega)]
  have hin := cd_in_of hj
  exact W.lald (v := .long (cd_L M a j.toNatClampNeg)) X.1 X.2.1 hc ((cd_ArrT E (t := 21) (by omega) (by omega)).1 _ _) (fun q => by cases q) (by rw [arrV_size]; exact hin) (by rw [arrV_read _ _ (Nat.not_le.mp fun q => hin (Or.inr q))]; rfl) rfl rfl hd (kk H locs lr hP hS hl)
theorem cd_o_aald (X : cd_Cx p s m args c y) (E : cd_Ev G s s.heap) {a t : Nat} {j : Int32} (ht : t = 23 ∨ t = 24) (hk : cd_k M a = t) (hj : cd_in j (cd_n M a) = true) (hd : decode (cd_cc y) pc = .ok (.aaload, 1)) (kk : cd_At p l e R s m args below meth c Q G y k0 s0 (pc + 1) ls (.ref (cd_R M a j.toNatClampNeg) :: st) M) : cd_At p l e R s m args below meth c Q G y k0 s0 pc ls (.int j :: .ref a :: st) M := fun H locs lr hP hS hl => by
  obtain ⟨h2, hlt, hc⟩ := cd_arr hP hk (by omega) (by omega)
  rw [List.map_cons, List.map_cons, cd_tv_ref (by omega)]
  have hin := cd_in_of hj
  have hr : (cd_aty t).isReference = true := by rcases ht with rfl | rfl <;> rfl
  refine W.aald (ty := cd_aty t) (v := cd_tv G (.ref (cd_R M a j.toNatClampNeg))) X.1 X.2.1 hc ((cd_ArrT E (t := t) (by omega) (by omega)).1 _ _) hr (fun q => by cases q) (by rw [arrV_size]; exact hin) ?_ rfl rfl hd (kk H locs lr hP hS hl)
  rw [arrV_read _ _ (Nat.not_le.mp fun q => hin (Or.inr q))]
  unfold cd_av
  rw [if_neg (by omega), if_pos ht]
/-- a place of an array is written -/
theorem cd_arr_put {H H1 : Heap} {M' : cd_M} {a t j : Nat} {v : Value} (hP : cd_Rp G M H) (hk : cd_k M a = t) (h1 : 20 ≤ t) (h2 : t ≤ 24) (hK : M'.1 = M.1) (e1 : H1[cd_ad G a]? = some ((arrV (G.2.1 t) (cd_n M a) (cd_av G M t a)).setSlot j v)) (z : H1.size = H.size) (oq : ∀ q, q ≠ cd_ad G a → H1[q]? = H[q]?)
    (hself : ∀ i, cd_av G M' t a i = if i = j then v else cd_av G M t a i) (hoth : ∀ a', a' ≠ a → (∀ k, cd_I M' a' k = cd_I M a' k) ∧ (∀ k, cd_L M' a' k = cd_L M a' k) ∧ ∀ k, cd_R M' a' k = cd_R M a' k) : cd_Rp G M' H1 := by
  obtain ⟨h3, hlt, hc⟩ := cd_arr hP hk h1 h2
  refine hP.put h3 hlt hK (fun j => (hoth 1 (by omega)).1 j) hoth z oq (Or.inr ?_)
  have kk' : cd_k M' a = t := by unfold cd_k; rw [hK]; exact hk
  have nn' : cd_n M' a = cd_n M a := by unfold cd_n; rw [hK]
  rw [kk', nn']
  refine ⟨h1, h2, ?_⟩
  rw [e1, arrV_store]
  have : updV (cd_av G M t a) j v = cd_av G M' t a := by funext i; rw [hself i]; rfl
  rw [this]
theorem cd_o_iast (X : cd_Cx p s m args c y) (E : cd_Ev G s s.heap) {a : Nat} {j v : Int32} (hk : cd_k M a = 20) (hj : cd_in j (cd_n M a) = true) (hd : decode (cd_cc y) pc = .ok (.iastore, 1)) (kk : cd_At p l e R s m args below meth c Q G y k0 s0 (pc + 1) ls st (cd_wI M a j.toNatClampNeg v)) : cd_At p l e R s m args below meth c Q G y k0 s0 pc ls (.int v :: .int j :: .ref a :: st) M := fun H locs lr hP hS hl => by
  obtain ⟨h2, hlt, hc⟩ := cd_arr hP hk (by omega) (by omega)
  rw [List.map_cons, List.map_cons, List.map_cons, cd_tv_ref (by omega)]
  have hin := cd_in_of hj
  refine W.iast X.1 X.2.1 hc ((cd_ArrT E (t := 20) (by omega) (by omega)).1 _ _) (fun q => by cases q) (by rw [arrV_size]; exact hin) rfl rfl hd fun H1 e1 z oq => ?_
  exact kk H1 _ lr (cd_arr_put hP hk (by omega) (by omega) rfl e1 z oq (fun i => by simp only [cd_av, cd_I, cd_wI, cd_up_eq]; by_cases hi : i = j.toNatClampNeg <;> simp [hi]) (fun a' ha => ⟨fun k => cd_up_ne _ _ _ ha k, fun _ => rfl, fun _ => rfl⟩)) (hS.put z oq (cd_ad_of hP h2 hlt).2.1) hl
theorem cd_o_zast (X : cd_Cx p s m args c y) (E : cd_Ev G s s.heap) {a : Nat} {j v : Int32} (hk : cd_k M a = 22) (hj : cd_in j (cd_n M a) = true) (hv : v &&& 1 = v) (hd : decode (cd_cc y) pc = .ok (.bastore, 1)) (kk : cd_At p l e R s m args below meth c Q G y k0 s0 (pc + 1) ls st (cd_wI M a j.toNatClampNeg v)) : cd_At p l e R s m args below meth c Q G y k0 s0 pc ls (.int v :: .int j :: .ref a :: st) M := fun H locs lr hP hS hl => by
  obtain ⟨h2, hlt, hc⟩ := cd_arr hP hk (by omega) (by omega)
  rw [List.map_cons, List.map_cons, List.map_cons, cd_tv_ref (by omega)]
  have hin := cd_in_of hj
  refine W.zast X.1 X.2.1 hc ((cd_ArrT E (t := 22) (by omega) (by omega)).1 _ _) (fun q => by cases q) (by rw [arrV_size]; exact hin) rfl rfl hd fun H1 e1 z oq => ?_
  have e0 : narrow .boolean (.int v) = .int v := by show Value.int (v &&& 1) = _; rw [hv]
  rw [e0] at e1
  exact kk H1 _ lr (cd_arr_put hP hk (by omega) (by omega) rfl e1 z oq (fun i => by simp only [cd_av, cd_I, cd_wI, cd_up_eq]; by_cases hi : i = j.toNatClampNeg <;> simp [hi]) (fun a' ha => ⟨fun k => cd_up_ne _ _ _ ha k, fun _ => rfl, fun _ => rfl⟩)) (hS.put z oq (cd_ad_of hP h2 hlt).2.1) hl
theorem cd_o_last (X : cd_Cx p s m args c y) (E : cd_Ev G s s.heap) {a : Nat} {j : Int32} {v : Int64} (hk : cd_k M a = 21) (hj : cd_in j (cd_n M a) = true) (hd : decode (cd_cc y) pc = .ok (.lastore, 1)) (kk : cd_At p l e R s m args below meth c Q G y k0 s0 (pc + 1) ls st (cd_wL M a j.toNatClampNeg v)) : cd_At p l e R s m args below meth c Q G y k0 s0 pc ls (.long v :: .int j :: .ref a :: st) M := fun H locs lr hP hS hl => by
  obtain ⟨h2, hlt, hc⟩ := cd_arr hP hk (by omega) (by omega)
  rw [List.map_cons, List.map_cons, List.map_cons, cd_tv_ref (by omega)]
  have hin := cd_in_of hj
  refine W.last X.1 X.2.1 hc ((cd_ArrT E (t := 21) (by omega) (by omega)).1 _ _) (fun q => by cases q) (by rw [arrV_size]; exact hin) rfl rfl hd fun H1 e1 z oq => ?_
  exact kk H1 _ lr (cd_arr_put hP hk (by omega) (by omega) rfl e1 z oq (fun i => by simp only [cd_av, cd_L, cd_wL, cd_up_eq]; by_cases hi : i = j.toNatClampNeg <;> simp [hi]) (fun a' ha => ⟨fun _ => rfl, fun k => cd_up_ne _ _ _ ha k, fun _ => rfl⟩)) (hS.put z oq (cd_ad_of hP h2 hlt).2.1) hl
theorem cd_o_aast (X : cd_Cx p s m args c y) (E : cd_Ev G s s.heap) {a v t ci : Nat} {j : Int32} (ht : (t = 23 ∧ ci = 6) ∨ (t = 24 ∧ ci = 9)) (hk : cd_k M a = t) (hkv : cd_k M v = ci) (hj : cd_in j (cd_n M a) = true) (hd : decode (cd_cc y) pc = .ok (.aastore, 1)) (kk : cd_At p l e R s m args below meth c Q G y k0 s0 (pc + 1) ls st (cd_wR M a j.toNatClampNeg v)) : cd_At p l e R s m args below meth c Q G y k0 s0 pc ls (.ref v :: .int j :: .ref a :: st) M := fun H locs lr hP hS hl => by
  obtain ⟨h2, hlt, hc⟩ := cd_arr hP hk (by omega) (by omega)
  obtain ⟨v2, vlt, -, cellV, g1, g2, g3, -⟩ := cd_obj hP hkv (by omega)
  have ev : cd_tv G (.ref v) = .ref (cd_ad G v) := cd_tv_ref (by omega)
  rw [List.map_cons, List.map_cons, List.map_cons, ev, cd_tv_ref (k := a) (by omega)]
  have hin := cd_in_of hj
  have hcls := (E.1.1 ci _ (cd_clk (by omega))).2
  have hra := (cd_ArrT E (t := t) (by omega) (by omega)).2
  have hty : cd_aty t = .object (cd_cn ci) := by rcases ht with ⟨rfl, rfl⟩ | ⟨rfl, rfl⟩ <;> rfl
  rw [hty] at hra
  obtain ⟨kA, comp, k1, k2, k3, -⟩ := hra
  have hcomp : comp = G.1.1 ci := Option.some.inj (k3.symm.trans hcls.1)
  subst hcomp
  obtain ⟨kC, hkC, -⟩ := hcls.2
  refine W.aast X.1 X.2.1 hc (fun q h => by cases h) (fun h => by cases h) k1 k2 rfl hkC ⟨fun q => hin (Or.inl q), by rw [arrV_size]; exact Nat.not_le.mp fun q => hin (Or.inr q)⟩ g1 (fun q h => by rw [g3] at h; cases h) (by rw [g2]; exact hkC) (by rw [g2]; exact va_assign hcls) rfl rfl hd fun H1 e1 z oq => ?_
  rw [← ev] at e1
  have h21 : ¬ t = 21 := by omega
  have h23 : t = 23 ∨ t = 24 := by omega
  exact kk H1 _ lr (cd_arr_put hP hk (by omega) (by omega) rfl e1 z oq (fun i => by simp only [cd_av, cd_R, cd_wR, cd_up_eq, if_neg h21, if_pos h23]; by_cases hi : i = j.toNatClampNeg <;> simp [hi]) (fun a' ha => ⟨fun _ => rfl, fun _ => rfl, fun k => cd_up_ne _ _ _ ha k⟩)) (hS.put z oq (cd_ad_of hP h2 hlt).2.1) hl
theorem cd_o_alen (X : cd_Cx p s m args c y) (E : cd_Ev G s s.heap) {a : Nat} (hk : cd_k M a = 20) (hd : decode (cd_cc y) pc = .ok (.arraylength, 1)) (kk : cd_At p l e R s m args below meth c Q G y k0 s0 (pc + 1) ls (.int (Int32.ofNat (cd_n M a)) :: st) M) : cd_At p l e R s m args below meth c Q G y k0 s0 pc ls (.ref a :: st) M := fun H locs lr hP hS hl => by
  obtain ⟨h2, hlt, hc⟩ := cd_arr hP hk (by omega) (by omega)
  rw [List.map_cons, cd_tv_ref (by omega)]
  exact W.alen (n := Int32.ofNat (cd_n M a)) X.1 X.2.1 hc ((cd_ArrT E (t := 20) (by omega) (by omega)).1 _ _) (by rw [arrV_size] <;> rfl) rfl rfl hd (kk H locs lr hP hS hl)
theorem cd_k25 {H : Heap} (hP : cd_Rp G M H) {a : Nat} (hk : cd_k M a = 25) : a = 1 := by
  have h1 := cd_k_lt hk (by omega)
  rcases Nat.lt_or_ge a 2 with h2 | h2
  · rcases (show a = 0 ∨ a = 1 by omega) with rfl | rfl
    · rw [cd_k_0 hP] at hk; omega
    · rfl
  · rcases hP.2.2.2.2.2.2 a h2 h1 with h3 | h3
    · rw [hk] at h3; omega
    · rw [hk] at h3; omega
theorem cd_o_sld (X : cd_Cx p s m args c y) (E : cd_Ev G s s.heap) {a : Nat} {j : Int32} (hk : cd_k M a = 25) (hj : cd_in j (cd_n M a) = true) (hd : decode (cd_cc y) pc = .ok (.iaload, 1)) (kk : cd_At p l e R s m args below meth c Q G y k0 s0 (pc + 1) ls (.int (cd_I M a j.toNatClampNeg) :: st) M) : cd_At p l e R s m args below meth c Q G y k0 s0 pc ls (.int j :: .ref a :: st) M := fun H locs lr hP hS hl => by
  have h1 := cd_k25 hP hk
  subst h1
  have hin := cd_in_of hj
  rw [(cd_k_1 hP).2] at hin
  obtain ⟨-, -, -, -, -, -, hX, hb0, hbs, -⟩ := E
  rw [List.map_cons, List.map_cons, cd_tv_ref (by omega)]
  have e1 : cd_ad G 1 = G.2.2.1 := rfl
  rw [e1]
  refine va_sld X.1 X.2.1 hX (Nat.lt_of_lt_of_le hb0 hbs) (Nat.not_le.mpr hb0) hS hin hd ?_
  have h9 := kk H locs lr hP hS hl
  rw [hP.2.2.2.2.2.1 _ (Nat.not_le.mp fun q => hin (Or.inr q))] at h9
  exact h9
theorem cd_o_slen (X : cd_Cx p s m args c y) (E : cd_Ev G s s.heap) {a : Nat} (hk : cd_k M a = 25) (hd : decode (cd_cc y) pc = .ok (.arraylength, 1)) (kk : cd_At p l e R s m args below meth c Q G y k0 s0 (pc + 1) ls (.int (Int32.ofNat (cd_n M a)) :: st) M) : cd_At p l e R s m args below meth c Q G y k0 s0 pc ls (.ref a :: st) M := fun H locs lr hP hS hl => by
  have h1 := cd_k25 hP hk
  subst h1
  obtain ⟨-, -, -, -, -, -, hX, hb0, hbs, -⟩ := E
  rw [List.map_cons, cd_tv_ref (by omega)]
  have e1 : cd_ad G 1 = G.2.2.1 := rfl
  rw [e1]
  refine va_slen X.1 X.2.1 hX (Nat.lt_of_lt_of_le hb0 hbs) (Nat.not_le.mpr hb0) hS hd ?_
  have h9 := kk H locs lr hP hS hl
  rw [(cd_k_1 hP).2] at h9
  exact h9
theorem cd_sl_app (K : List (Nat × Nat)) (t n : Nat) : cd_sl (K ++ [(t, n)]) = cd_sl K + n := by simp [cd_sl]
/-- a new cell -/
theorem cd_Rp.new {H H1 : Heap} (hP : cd_Rp G M H) {t n : Nat} (h9 : M.1.length < 900) (z : H1.size = H.size + 1) (oq : ∀ q, q < H.size → H1[q]? = H[q]?) (hc : cd_ce G (cd_new M t n) M.1.length H1) : cd_Rp G (cd_new M t n) H1 := by
  have hlen : (cd_new M t n).1.length = M.1.length + 1 := by simp [cd_new]
  have h2 := hP.2.1
  have old : ∀ a, a < M.1.length → (cd_new M t n).1[a]? = M.1[a]? := fun a ha => by simp [cd_new, List.getElem?_append_left ha]
  refine ⟨by rw [z, hP.1, hlen]; omega, by omega, by omega, by rw [old 0 (by omega)]; exact hP.2.2.2.1, by rw [old 1 (by omega)]; exact hP.2.2.2.2.1, fun j hj => ?_, fun a h3 hl => ?_⟩
  · have : cd_I (cd_new M t n) 1 j = cd_I M 1 j := by simp only [cd_new, cd_I]; rw [if_neg (by omega)]
    rw [this]
    exact hP.2.2.2.2.2.1 j hj
  · rw [hlen] at hl
    by_cases ha : a = M.1.length
    · subst ha; exact hc
    · have hl' : a < M.1.length := by omega
      have kk : cd_k (cd_new M t n) a = cd_k M a := by unfold cd_k; rw [List.getD_eq_getElem?_getD, List.getD_eq_getElem?_getD, old a hl']
      have nn : cd_n (cd_new M t n) a = cd_n M a := by unfold cd_n; rw [List.getD_eq_getElem?_getD, List.getD_eq_getElem?_getD, old a hl']
      have fe : ∀ t', cd_fv G (cd_new M t n) t' a = cd_fv G M t' a := fun t' => by funext k; simp only [cd_fv, cd_new, cd_I, cd_L, cd_R, if_neg ha]
      have ae : ∀ t', cd_av G (cd_new M t n) t' a = cd_av G M t' a := fun t' => by funext k; simp only [cd_av, cd_new, cd_I, cd_L, cd_R, if_neg ha]
      have hlt := (cd_ad_of hP h3 hl').2.2
      rcases hP.2.2.2.2.2.2 a h3 hl' with h4 | h4
      · refine Or.inl ⟨by rw [kk]; exact h4.1, by rw [nn, kk]; exact h4.2.1, ?_⟩
        rw [kk, fe]
        exact h4.2.2.kept (oq _ hlt)
      · refine Or.inr ⟨by rw [kk]; exact h4.1, by rw [kk]; exact h4.2.1, ?_⟩
        rw [kk, nn, ae, oq _ hlt]
        exact h4.2.2
theorem cd_new_kn (M : cd_M) (t n : Nat) : cd_k (cd_new M t n) M.1.length = t ∧ cd_n (cd_new M t n) M.1.length = n := by
  constructor
  · unfold cd_k; simp [cd_new]
  · unfold cd_n; simp [cd_new]
theorem cd_new_ad {H : Heap} (hP : cd_Rp G M H) (h9 : M.1.length < 900) : cd_ad G M.1.length = H.size := by
  have h2 := hP.2.1
  unfold cd_ad
  rw [if_neg (by omega), if_pos (by omega), hP.1]
theorem cd_S_new {H H1 : Heap} {locs : List Loc} (hS : va_S (cd_A G) s.heap H locs) (z : H1.size = H.size + 1) (oq : ∀ q, q < H.size → H1[q]? = H[q]?) : va_S (cd_A G) s.heap H1 locs :=
  ⟨by have := hS.1; omega, fun q h1 h2 => (oq q (Nat.lt_of_lt_of_le h1 hS.1)).trans (hS.2.1 q h1 h2), hS.2.2⟩
theorem cd_o_new (X : cd_Cx p s m args c y) (E : cd_Ev G s s.heap) {i t : Nat} (ht : t < 12) (hw : Cond.classLink (cd_own y) i (cd_cn t) ∈ cd_W) (hd : decode (cd_cc y) pc = .ok (.new i, 3)) (h9 : M.1.length < 900) (hk0 : k0 ≤ M.1.length) (hs0 : s0 ≤ cd_sl M.1) (hc : (cd_new M t (cd_nf t)).1.length - k0 ≤ R.cells) (hs : cd_sl (cd_new M t (cd_nf t)).1 - s0 ≤ R.slots) (kk : cd_At p l e R s m args below meth c Q G y k0 s0 (pc + 3) ls (.ref M.1.length :: st) (cd_new M t (cd_nf t))) : cd_At p l e R s m args below meth c Q G y k0 s0 pc ls st M := fun H locs lr hP hS hl => by
  have hKn := E.1.1 t _ (cd_clk ht)
  have el : (cd_new M t (cd_nf t)).1.length = M.1.length + 1 := by simp [cd_new]
  have es : cd_sl (cd_new M t (cd_nf t)).1 = cd_sl M.1 + cd_nf t := cd_sl_app _ _ _
  rw [el] at hc
  rw [es] at hs
  refine W.newcK X.1 X.2.1 X.2.2.2.1 (X.2.2.2.2 _ hw) (X.2.2.2.2 _ (cd_inst_w ht).1) (X.2.2.2.2 _ (cd_inst_w ht).2) rfl hd (by omega) (by omega) hKn.2.1 rfl fun H1 kC hkC e1 z1 o1 => ?_
  have ead := cd_new_ad hP h9
  have h9' := kk H1 locs lr (hP.new h9 z1 o1 (Or.inl ?_)) (cd_S_new hS z1 o1) hl
  · rw [el, es, List.map_cons, cd_tv_ref (by have := hP.2.1; omega), ead] at h9'
    rw [show M.1.length + 1 - k0 = M.1.length - k0 + 1 by omega, show cd_sl M.1 + cd_nf t - s0 = cd_sl M.1 - s0 + cd_nf t by omega] at h9'
    exact h9'
  · rw [(cd_new_kn M t (cd_nf t)).1, (cd_new_kn M t (cd_nf t)).2]
    refine ⟨ht, rfl, ?_⟩
    rw [ead]
    refine (u_born (cd_ft t) X.2.2.2.2 (cd_in_lay ht) hKn hkC e1 (cd_ty ht)).to fun j hj => ?_
    have h8 := cd_shk ht hj
    unfold cd_fv
    cases hft : cd_ft t j <;> rw [hft] at h8 <;> first | (cases h8; done) | simp [cd_new, cd_I, cd_L, cd_R, cd_tv, defaultValue]
theorem cd_o_newa (X : cd_Cx p s m args c y) (E : cd_Ev G s s.heap) {at_ : ArrayType} {t : Nat} {n : Int32} (hta : (at_ = .int ∧ t = 20) ∨ (at_ = .long ∧ t = 21) ∨ (at_ = .boolean ∧ t = 22)) (hd : decode (cd_cc y) pc = .ok (.newarray at_, 2)) (hn : ¬ n < 0) (hn2 : ¬ 65536 < n) (h9 : M.1.length < 900) (hk0 : k0 ≤ M.1.length) (hs0 : s0 ≤ cd_sl M.1) (hc : (cd_new M t n.toNatClampNeg).1.length - k0 ≤ R.cells) (hs : cd_sl (cd_new M t n.toNatClampNeg).1 - s0 ≤ R.slots) (kk : cd_At p l e R s m args below meth c Q G y k0 s0 (pc + 2) ls (.ref M.1.length :: st) (cd_new M t n.toNatClampNeg)) : cd_At p l e R s m args below meth c Q G y k0 s0 pc ls (.int n :: st) M := fun H locs lr hP hS hl => by
  have el : (cd_new M t n.toNatClampNeg).1.length = M.1.length + 1 := by simp [cd_new]
  have es : cd_sl (cd_new M t n.toNatClampNeg).1 = cd_sl M.1 + n.toNatClampNeg := cd_sl_app _ _ _
  rw [el] at hc
  rw [es] at hs
  have hty : newarray.typeOf at_ = cd_aty t := by rcases hta with ⟨rfl, rfl⟩ | ⟨rfl, rfl⟩ | ⟨rfl, rfl⟩ <;> rfl
  have hw : Cond.arrayClass (newarray.typeOf at_) ∈ cd_W := by rcases hta with ⟨rfl, rfl⟩ | ⟨rfl, rfl⟩ | ⟨rfl, rfl⟩ <;> first | exact cd_w_aI | exact cd_w_aJ | exact cd_w_aZ
  have hsmall : n.toNatClampNeg ≤ 65536 := by
    have h1 := Int32.not_lt.mp hn2
    have h2 := Int32.le_iff_toInt_le.mp h1
    have h3 : (65536 : Int32).toInt = 65536 := by decide
    rw [h3] at h2
    show n.toInt.toNat ≤ 65536
    omega
  have hcb : componentBytes (newarray.typeOf at_) ≤ 8 := by rcases hta with ⟨rfl, rfl⟩ | ⟨rfl, rfl⟩ | ⟨rfl, rfl⟩ <;> decide
  have hbytes : n.toNatClampNeg * componentBytes (newarray.typeOf at_) ≤ 536870912 := Nat.le_trans (Nat.mul_le_mul hsmall hcb) (by decide)
  refine va_newaK X.1 X.2.1 (X.2.2.2.2 _ hw) rfl hd rfl hn rfl hbytes (by omega) (by omega) rfl fun H1 cA e1 z1 o1 hAr hNm => ?_
  have ead := cd_new_ad hP h9
  have hcA : cA = G.2.1 t := by
    have h := (cd_ArrT E (t := t) (by omega) (by omega)).2
    rw [← hty] at h
    rcases hta with ⟨rfl, rfl⟩ | ⟨rfl, rfl⟩ | ⟨rfl, rfl⟩ <;> exact Option.some.inj (hNm.symm.trans h)
  subst hcA
  have h9' := kk H1 locs lr (hP.new h9 z1 o1 (Or.inr ?_)) (cd_S_new hS z1 o1) hl
  · rw [el, es, List.map_cons, cd_tv_ref (by have := hP.2.1; omega), ead] at h9'
    rw [show M.1.length + 1 - k0 = M.1.length - k0 + 1 by omega, show cd_sl M.1 + n.toNatClampNeg - s0 = cd_sl M.1 - s0 + n.toNatClampNeg by omega] at h9'
    exact h9'
  · rw [(cd_new_kn M t n.toNatClampNeg).1, (cd_new_kn M t n.toNatClampNeg).2, ead, e1]
    refine ⟨by omega, by omega, ?_⟩
    congr 2
    funext k
    rcases hta with ⟨rfl, rfl⟩ | ⟨rfl, rfl⟩ | ⟨rfl, rfl⟩ <;> simp [cd_av, cd_new, cd_I, cd_L, cd_R, newarray.typeOf, defaultValue]
theorem cd_o_anew (X : cd_Cx p s m args c y) (E : cd_Ev G s s.heap) {i t : Nat} {C : String} {n : Int32} (hta : (C = "ChairDen$State" ∧ t = 23) ∨ (C = "ChairDen$Want" ∧ t = 24)) (hw : Cond.classLink (cd_own y) i C ∈ cd_W) (hd : decode (cd_cc y) pc = .ok (.anewarray i, 3)) (hn : ¬ n < 0) (hn2 : ¬ 65536 < n) (h9 : M.1.length < 900) (hk0 : k0 ≤ M.1.length) (hs0 : s0 ≤ cd_sl M.1) (hc : (cd_new M t n.toNatClampNeg).1.length - k0 ≤ R.cells) (hs : cd_sl (cd_new M t n.toNatClampNeg).1 - s0 ≤ R.slots) (kk : cd_At p l e R s m args below meth c Q G y k0 s0 (pc + 3) ls (.ref M.1.length :: st) (cd_new M t n.toNatClampNeg)) : cd_At p l e R s m args below meth c Q G y k0 s0 pc ls (.int n :: st) M := fun H locs lr hP hS hl => by
  have el : (cd_new M t n.toNatClampNeg).1.length = M.1.length + 1 := by simp [cd_new]
  have es : cd_sl (cd_new M t n.toNatClampNeg).1 = cd_sl M.1 + n.toNatClampNeg := cd_sl_app _ _ _
  rw [el] at hc
  rw [es] at hs
  have hty : cd_aty t = .object C := by rcases hta with ⟨rfl, rfl⟩ | ⟨rfl, rfl⟩ <;> rfl
  have hao : va_AO C s := by rcases hta with ⟨rfl, rfl⟩ | ⟨rfl, rfl⟩ <;> first | exact E.2.1 | exact E.2.2.1
  have hsmall : n.toNatClampNeg ≤ 65536 := by
    have h1 := Int32.not_lt.mp hn2
    have h2 := Int32.le_iff_toInt_le.mp h1
    have h3 : (65536 : Int32).toInt = 65536 := by decide
    rw [h3] at h2
    show n.toInt.toNat ≤ 65536
    omega
  refine W.anew X.1 X.2.1 X.2.2.2.1 (X.2.2.2.2 _ hw) (va_AO.use hao) rfl hd rfl hn (by omega) (by omega) (by omega) fun cA kA comp f1 f2 f3 f4 => ?_
  have ead := cd_new_ad hP h9
  have hcA : cA = G.2.1 t := by
    have h := (cd_ArrT E (t := t) (by omega) (by omega)).2
    rw [hty] at h
    obtain ⟨-, -, -, -, -, h5⟩ := h
    exact Option.some.inj (f1.symm.trans h5)
  subst hcA
  generalize hH1 : H.push ({ cls := G.2.1 t, slots := Array.replicate n.toNatClampNeg .null, vm := .none } : Cell) = H1
  have z1 : H1.size = H.size + 1 := by rw [← hH1, Array.size_push]
  have e1 : H1[H.size]? = some (arrV (G.2.1 t) n.toNatClampNeg (fun _ => .null)) := by rw [← hH1, Array.getElem?_push_size, ← arrV_new]
  have o1 : ∀ q, q < H.size → H1[q]? = H[q]? := fun q hq => by rw [← hH1, Array.getElem?_push, if_neg (Nat.ne_of_lt hq)]
  have h9' := kk H1 locs lr (hP.new h9 z1 o1 (Or.inr ?_)) (cd_S_new hS z1 o1) hl
  · rw [el, es, List.map_cons, cd_tv_ref (by have := hP.2.1; omega), ead] at h9'
    rw [show M.1.length + 1 - k0 = M.1.length - k0 + 1 by omega, show cd_sl M.1 + n.toNatClampNeg - s0 = cd_sl M.1 - s0 + n.toNatClampNeg by omega] at h9'
    exact h9'
  · rw [(cd_new_kn M t n.toNatClampNeg).1, (cd_new_kn M t n.toNatClampNeg).2, ead, e1]
    refine ⟨by omega, by omega, ?_⟩
    congr 2
    funext k
    rcases hta with ⟨rfl, rfl⟩ | ⟨rfl, rfl⟩ <;> simp [cd_av, cd_new, cd_I, cd_L, cd_R, cd_tv]
end CDM
