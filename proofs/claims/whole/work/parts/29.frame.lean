/-! ===== frames: what keeps its ints ===== -/
/-- only cells that X takes may differ -/
def ce_fr (X : Nat → Nat → Bool) (I I' : Nat → Nat → Int32) : Prop := ∀ a k, X a k = false → I' a k = I a k
theorem ce_fr.rf {X : Nat → Nat → Bool} {I : Nat → Nat → Int32} : ce_fr X I I := fun _ _ _ => rfl
theorem ce_fr.tr {X : Nat → Nat → Bool} {I I1 I2 : Nat → Nat → Int32} (h1 : ce_fr X I I1) (h2 : ce_fr X I1 I2) : ce_fr X I I2 := fun a k h => (h2 a k h).trans (h1 a k h)
theorem ce_fr.wd {X Y : Nat → Nat → Bool} {I I1 : Nat → Nat → Int32} (h1 : ce_fr X I I1) (h : ∀ a k, Y a k = false → X a k = false) : ce_fr Y I I1 := fun a k hy => h1 a k (h a k hy)
theorem ce_fr.up {X : Nat → Nat → Bool} {I I1 : Nat → Nat → Int32} (h1 : ce_fr X I I1) {a k : Nat} {v : Int32} (h : X a k = true) : ce_fr X I (cd_up I1 a k v) := fun b j hb => by
  rw [← h1 b j hb]
  unfold cd_up
  by_cases hba : b = a
  · by_cases hjk : j = k
    · rw [hba, hjk, h] at hb
      cases hb
    · rw [if_pos hba, if_neg hjk]
  · rw [if_neg hba]
theorem cd_up_s {α : Type} {f : Nat → Nat → α} {a k : Nat} {v : α} : cd_up f a k v a k = v := by
  unfold cd_up
  rw [if_pos rfl, if_pos rfl]
theorem cd_up_a {α : Type} {f : Nat → Nat → α} {a k b j : Nat} {v : α} (h : b ≠ a) : cd_up f a k v b j = f b j := by
  unfold cd_up
  rw [if_neg h]
theorem cd_up_k {α : Type} {f : Nat → Nat → α} {a k b j : Nat} {v : α} (h : j ≠ k) : cd_up f a k v b j = f b j := by
  unfold cd_up
  by_cases hb : b = a
  · rw [if_pos hb, if_neg h]
  · rw [if_neg hb]
/-- the reference's den and state don't hang on other cells -/
def cd_xM (a k : Nat) : Bool := Nat.ble 101 a && Nat.ble a 112 || (Nat.beq a 100 && (Nat.beq k 0 || (Nat.beq k 7 || (Nat.beq k 9 || (Nat.beq k 15 || Nat.beq k 16)))))
theorem cd_refD.fr {D : cd_D} {I I' : Nat → Nat → Int32} {X : Nat → Nat → Bool} (hR : cd_refD D I) (hf : ce_fr X I I') (hX : ∀ a k, cd_xM a k = true → X a k = false) : cd_refD D I' := by
  have g : ∀ a k, cd_xM a k = true → I' a k = I a k := fun a k h => hf a k (hX a k h)
  obtain ⟨⟨a1, a2, a3, a4, a5⟩, b, c, d⟩ := hR
  refine ⟨⟨?_, ?_, ?_, ?_, ?_⟩, fun t ht => ?_, fun k hk => ?_, fun k hk => ?_⟩
  · rw [g 100 0 rfl, a1]
  · rw [g 100 7 rfl, a2]
  · rw [g 100 9 rfl, a3]
  · rw [g 100 15 rfl, a4]
  · rw [g 100 16 rfl, a5]
  · rw [g 102 t rfl, g 103 t rfl, g 104 t rfl, g 105 t rfl]; exact b t ht
  · rw [g 107 _ rfl, g 107 _ rfl, g 107 _ rfl, g 107 _ rfl, g 107 _ rfl]; exact c k hk
  · rw [g 108 k rfl, g 109 k rfl]; exact d k hk
theorem cd_refS.fr {D : cd_D} {S : cd_S} {I I' : Nat → Nat → Int32} {X : Nat → Nat → Bool} (hT : cd_refS D S I) (hf : ce_fr X I I') (hX : ∀ a k, cd_xM a k = true → X a k = false) : cd_refS D S I' := by
  have g : ∀ a k, cd_xM a k = true → I' a k = I a k := fun a k h => hf a k (hX a k h)
  refine ⟨fun t ht => ?_, fun k hk => ?_⟩
  · rw [g 101 t rfl, g 106 t rfl]; exact hT.1 t ht
  · rw [g 110 k rfl, g 111 k rfl, g 112 k rfl]; exact hT.2 k hk
