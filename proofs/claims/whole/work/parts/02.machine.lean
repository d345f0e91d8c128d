/-! ===== THE SMALL MACHINE: bytecode run over typed memory, objects by numbers ===== -/
/-- kinds and lengths; ints; longs; references -/
abbrev cd_M : Type := List (Nat × Nat) × (Nat → Nat → Int32) × (Nat → Nat → Int64) × (Nat → Nat → Nat)
abbrev cd_I (M : cd_M) : Nat → Nat → Int32 := M.2.1
abbrev cd_L (M : cd_M) : Nat → Nat → Int64 := M.2.2.1
abbrev cd_R (M : cd_M) : Nat → Nat → Nat := M.2.2.2
def cd_k (M : cd_M) (a : Nat) : Nat := (M.1.getD a (99, 0)).1
def cd_n (M : cd_M) (a : Nat) : Nat := (M.1.getD a (99, 0)).2
def cd_up {α : Type} (f : Nat → Nat → α) (a k : Nat) (v : α) : Nat → Nat → α := fun a' k' => if a' = a then (if k' = k then v else f a' k') else f a' k'
def cd_wI (M : cd_M) (a k : Nat) (v : Int32) : cd_M := (M.1, cd_up M.2.1 a k v, M.2.2)
def cd_wL (M : cd_M) (a k : Nat) (v : Int64) : cd_M := (M.1, M.2.1, cd_up M.2.2.1 a k v, M.2.2.2)
def cd_wR (M : cd_M) (a k : Nat) (v : Nat) : cd_M := (M.1, M.2.1, M.2.2.1, cd_up M.2.2.2 a k v)
/-- a new cell: all zero -/
def cd_new (M : cd_M) (t n : Nat) : cd_M := (M.1 ++ [(t, n)], (fun a => if a = M.1.length then fun _ => 0 else M.2.1 a), (fun a => if a = M.1.length then fun _ => 0 else M.2.2.1 a), (fun a => if a = M.1.length then fun _ => 0 else M.2.2.2 a))
/-- copying of ints -/
def cd_cp (M : cd_M) (a i b j n : Nat) : cd_M := (M.1, (fun o => if o = b then va_cpy (M.2.1 a) (M.2.1 b) i j n else M.2.1 o), M.2.2)
def cd_in (j : Int32) (n : Nat) : Bool := decide (¬ (j < 0 ∨ n ≤ j.toNatClampNeg))
abbrev cd_Ret : Type := Option Value × cd_M
/-- an operation: the instruction, its place, a constant, two numbers, places -/
abbrev cd_O : Type := Instr × Nat × Value × Nat × Nat × List Nat
abbrev cd_X : Type := Nat → List Value → List Value → cd_M → Option cd_Ret
abbrev cd_C : Type := Nat → List Value → cd_M → Option cd_Ret
def cd_ci (r : Option cd_Ret) : Option (Int32 × cd_M) := r.bind fun q => match q.1 with
  | some (.int v) => some (v, q.2)
  | _ => none
def cd_cl (r : Option cd_Ret) : Option (Int64 × cd_M) := r.bind fun q => match q.1 with
  | some (.long v) => some (v, q.2)
  | _ => none
def cd_cv (r : Option cd_Ret) : Option cd_M := r.bind fun q => match q.1 with
  | none => some q.2
  | _ => none
/-- locals: a store ends a long that stood over its place -/
def cd_kill (ls : List Value) (i : Nat) : List Value := match ls[i]? with
  | some (.long _) => ls.set i .null
  | _ => ls
def cd_s1 (ls : List Value) (i : Nat) (v : Value) : List Value := match i with
  | 0 => ls.set 0 v
  | j + 1 => (cd_kill ls j).set (j + 1) v
def cd_s2 (ls : List Value) (i : Nat) (v : Value) : List Value := (cd_s1 ls i v).set (i + 1) .null
def cd_sw (κ : Nat → Option cd_Ret) (d : Nat) (x : Int32) : Int32 → List Nat → Option cd_Ret
  | _, [] => κ d
  | v, t :: ts => if x = v then κ t else cd_sw κ d x (v + 1) ts
/-- the words that the class writes out -/
def cd_strs : List (List Nat) := [[116, 104, 105, 110, 103], [99, 108, 111, 116, 104], [104, 111, 108, 100], [108, 97, 105, 100], [112, 101, 103], [98, 111, 111, 107], [116, 105, 101, 100], [116, 114, 97, 112, 112, 101, 100], [108, 105, 103, 104, 116], [98, 97, 114], [114, 111, 111, 109], [104, 105, 103, 104], [100, 97, 114, 107], [100, 111, 111, 114], [115, 116, 97, 110, 100, 115]]
def cd_str (k : Nat) : List Nat := cd_strs.getD (k - 1000) []
/-- the words that a stack holds -/
def cd_cat : List Value → Nat
  | [] => 0
  | v :: r => v.category + cd_cat r
/-- one instruction; κ goes on, C calls -/
def cd_step (κ : cd_X) (C : cd_C) (o : cd_O) (ii : Nat) (ls st : List Value) (M : cd_M) : Option cd_Ret :=
  match o.1 with
  | .aload i => match ls[i]? with
    | some (.ref a) => κ (ii + 1) ls (.ref a :: st) M
    | _ => none
  | .aload_n i => match ls[(i : Nat)]? with
    | some (.ref a) => κ (ii + 1) ls (.ref a :: st) M
    | _ => none
  | .iload i => match ls[i]? with
    | some (.int a) => κ (ii + 1) ls (.int a :: st) M
    | _ => none
  | .iload_n i => match ls[(i : Nat)]? with
    | some (.int a) => κ (ii + 1) ls (.int a :: st) M
    | _ => none
  | .lload i => match ls[i]? with
    | some (.long a) => κ (ii + 1) ls (.long a :: st) M
    | _ => none
  | .lload_n i => match ls[(i : Nat)]? with
    | some (.long a) => κ (ii + 1) ls (.long a :: st) M
    | _ => none
  | .astore i => match st with
    | .ref a :: st => κ (ii + 1) (cd_s1 ls i (.ref a)) st M
    | _ => none
  | .astore_n i => match st with
    | .ref a :: st => κ (ii + 1) (cd_s1 ls i (.ref a)) st M
    | _ => none
  | .istore i => match st with
    | .int a :: st => κ (ii + 1) (cd_s1 ls i (.int a)) st M
    | _ => none
  | .istore_n i => match st with
    | .int a :: st => κ (ii + 1) (cd_s1 ls i (.int a)) st M
    | _ => none
  | .lstore i => match st with
    | .long a :: st => κ (ii + 1) (cd_s2 ls i (.long a)) st M
    | _ => none
  | .lstore_n i => match st with
    | .long a :: st => κ (ii + 1) (cd_s2 ls i (.long a)) st M
    | _ => none
  | .iinc i _ => match ls[i]?, o.2.2.1 with
    | some (.int a), .int b => κ (ii + 1) (ls.set i (.int (a + b))) st M
    | _, _ => none
  | .iconst _ => κ (ii + 1) ls (o.2.2.1 :: st) M
  | .bipush _ => κ (ii + 1) ls (o.2.2.1 :: st) M
  | .sipush _ => κ (ii + 1) ls (o.2.2.1 :: st) M
  | .lconst _ => κ (ii + 1) ls (o.2.2.1 :: st) M
  | .ldc _ => κ (ii + 1) ls (o.2.2.1 :: st) M
  | .ldc_w _ => κ (ii + 1) ls (o.2.2.1 :: st) M
  | .ldc2_w _ => κ (ii + 1) ls (o.2.2.1 :: st) M
  | .iadd => match st with
    | .int b :: .int a :: st => κ (ii + 1) ls (.int (a + b) :: st) M
    | _ => none
  | .isub => match st with
    | .int b :: .int a :: st => κ (ii + 1) ls (.int (a - b) :: st) M
    | _ => none
  | .imul => match st with
    | .int b :: .int a :: st => κ (ii + 1) ls (.int (a * b) :: st) M
    | _ => none
  | .idiv => match st with
    | .int b :: .int a :: st => if b = 0 then none else κ (ii + 1) ls (.int (a / b) :: st) M
    | _ => none
  | .irem => match st with
    | .int b :: .int a :: st => if b = 0 then none else κ (ii + 1) ls (.int (a - a / b * b) :: st) M
    | _ => none
  | .iand => match st with
    | .int b :: .int a :: st => κ (ii + 1) ls (.int (a &&& b) :: st) M
    | _ => none
  | .ior => match st with
    | .int b :: .int a :: st => κ (ii + 1) ls (.int (a ||| b) :: st) M
    | _ => none
  | .ixor => match st with
    | .int b :: .int a :: st => κ (ii + 1) ls (.int (a ^^^ b) :: st) M
    | _ => none
  | .ineg => match st with
    | .int a :: st => κ (ii + 1) ls (.int (-a) :: st) M
    | _ => none
  | .ishl => match st with
    | .int b :: .int a :: st => κ (ii + 1) ls (.int (a <<< (b &&& 31)) :: st) M
    | _ => none
  | .ishr => match st with
    | .int b :: .int a :: st => κ (ii + 1) ls (.int (a >>> (b &&& 31)) :: st) M
    | _ => none
  | .iushr => match st with
    | .int b :: .int a :: st => κ (ii + 1) ls (.int (a.toUInt32 >>> (b.toUInt32 &&& Int32.toUInt32 31)).toInt32 :: st) M
    | _ => none
  | .ladd => match st with
    | .long b :: .long a :: st => κ (ii + 1) ls (.long (a + b) :: st) M
    | _ => none
  | .lsub => match st with
    | .long b :: .long a :: st => κ (ii + 1) ls (.long (a - b) :: st) M
    | _ => none
  | .lmul => match st with
    | .long b :: .long a :: st => κ (ii + 1) ls (.long (a * b) :: st) M
    | _ => none
  | .lrem => match st with
    | .long b :: .long a :: st => if b = 0 then none else κ (ii + 1) ls (.long (a - a / b * b) :: st) M
    | _ => none
  | .land => match st with
    | .long b :: .long a :: st => κ (ii + 1) ls (.long (a &&& b) :: st) M
    | _ => none
  | .lor => match st with
    | .long b :: .long a :: st => κ (ii + 1) ls (.long (a ||| b) :: st) M
    | _ => none
  | .lxor => match st with
    | .long b :: .long a :: st => κ (ii + 1) ls (.long (a ^^^ b) :: st) M
    | _ => none
  | .lneg => match st with
    | .long a :: st => κ (ii + 1) ls (.long (-a) :: st) M
    | _ => none
  | .lshl => match st with
    | .int b :: .long a :: st => κ (ii + 1) ls (.long (a <<< (b.toInt64 &&& 63)) :: st) M
    | _ => none
  | .lshr => match st with
    | .int b :: .long a :: st => κ (ii + 1) ls (.long (a >>> (b.toInt64 &&& 63)) :: st) M
    | _ => none
  | .lushr => match st with
    | .int b :: .long a :: st => κ (ii + 1) ls (.long (a.toUInt64 >>> (b.toInt64.toUInt64 &&& Int64.toUInt64 63)).toInt64 :: st) M
    | _ => none
  | .lcmp => match st with
    | .long b :: .long a :: st => κ (ii + 1) ls (.int (lg_cmp a b) :: st) M
    | _ => none
  | .i2l => match st with
    | .int a :: st => κ (ii + 1) ls (.long a.toInt64 :: st) M
    | _ => none
  | .l2i => match st with
    | .long a :: st => κ (ii + 1) ls (.int a.toInt32 :: st) M
    | _ => none
  | .dup => match st with
    | .int a :: st => κ (ii + 1) ls (.int a :: .int a :: st) M
    | .ref a :: st => κ (ii + 1) ls (.ref a :: .ref a :: st) M
    | _ => none
  | .dup2 => match st with
    | .int a :: .ref b :: st => κ (ii + 1) ls (.int a :: .ref b :: .int a :: .ref b :: st) M
    | .long a :: st => κ (ii + 1) ls (.long a :: .long a :: st) M
    | _ => none
  | .goto _ => κ o.2.2.2.1 ls st M
  | .ifCond c _ => match st with
    | .int a :: st => match c with
      | .eq => if a = 0 then κ o.2.2.2.1 ls st M else κ (ii + 1) ls st M
      | .ne => if a = 0 then κ (ii + 1) ls st M else κ o.2.2.2.1 ls st M
      | .lt => if a < 0 then κ o.2.2.2.1 ls st M else κ (ii + 1) ls st M
      | .ge => if a < 0 then κ (ii + 1) ls st M else κ o.2.2.2.1 ls st M
      | .gt => if 0 < a then κ o.2.2.2.1 ls st M else κ (ii + 1) ls st M
      | .le => if 0 < a then κ (ii + 1) ls st M else κ o.2.2.2.1 ls st M
    | _ => none
  | .if_icmp c _ => match st with
    | .int b :: .int a :: st => match c with
      | .eq => if a = b then κ o.2.2.2.1 ls st M else κ (ii + 1) ls st M
      | .ne => if a = b then κ (ii + 1) ls st M else κ o.2.2.2.1 ls st M
      | .lt => if a < b then κ o.2.2.2.1 ls st M else κ (ii + 1) ls st M
      | .ge => if a < b then κ (ii + 1) ls st M else κ o.2.2.2.1 ls st M
      | .gt => if b < a then κ o.2.2.2.1 ls st M else κ (ii + 1) ls st M
      | .le => if b < a then κ (ii + 1) ls st M else κ o.2.2.2.1 ls st M
    | _ => none
  | .tableswitch _ _ _ _ => match st, o.2.2.1 with
    | .int a :: st, .int v => cd_sw (fun t => κ t ls st M) o.2.2.2.1 a v o.2.2.2.2.2
    | _, _ => none
  | .getfield _ => match st with
    | .ref a :: st => if cd_k M a = o.2.2.2.1 then match o.2.2.1 with
        | .int _ => κ (ii + 1) ls (.int (cd_I M a o.2.2.2.2.1) :: st) M
        | .long _ => κ (ii + 1) ls (.long (cd_L M a o.2.2.2.2.1) :: st) M
        | .ref _ => κ (ii + 1) ls (.ref (cd_R M a o.2.2.2.2.1) :: st) M
        | _ => none
      else none
    | _ => none
  | .putfield _ => match st, o.2.2.1 with
    | .int v :: .ref a :: st, .int w => if cd_k M a = o.2.2.2.1 then (if w = 1 then (if v &&& 1 = v then κ (ii + 1) ls st (cd_wI M a o.2.2.2.2.1 v) else none) else κ (ii + 1) ls st (cd_wI M a o.2.2.2.2.1 v)) else none
    | .long v :: .ref a :: st, .long _ => if cd_k M a = o.2.2.2.1 then κ (ii + 1) ls st (cd_wL M a o.2.2.2.2.1 v) else none
    | .ref v :: .ref a :: st, .ref _ => if cd_k M a = o.2.2.2.1 then κ (ii + 1) ls st (cd_wR M a o.2.2.2.2.1 v) else none
    | _, _ => none
  | .iaload => match st with
    | .int j :: .ref a :: st => if cd_k M a = o.2.2.2.1 ∧ cd_in j (cd_n M a) = true then κ (ii + 1) ls (.int (cd_I M a j.toNatClampNeg) :: st) M else none
    | _ => none
  | .baload => match st with
    | .int j :: .ref a :: st => if cd_k M a = 22 ∧ cd_in j (cd_n M a) = true then κ (ii + 1) ls (.int (cd_I M a j.toNatClampNeg) :: st) M else none
    | _ => none
  | .laload => match st with
    | .int j :: .ref a :: st => if cd_k M a = 21 ∧ cd_in j (cd_n M a) = true then κ (ii + 1) ls (.long (cd_L M a j.toNatClampNeg) :: st) M else none
    | _ => none
  | .aaload => match st with
    | .int j :: .ref a :: st => if cd_k M a = o.2.2.2.1 ∧ cd_in j (cd_n M a) = true then κ (ii + 1) ls (.ref (cd_R M a j.toNatClampNeg) :: st) M else none
    | _ => none
  | .iastore => match st with
    | .int v :: .int j :: .ref a :: st => if cd_k M a = 20 ∧ cd_in j (cd_n M a) = true then κ (ii + 1) ls st (cd_wI M a j.toNatClampNeg v) else none
    | _ => none
  | .bastore => match st with
    | .int v :: .int j :: .ref a :: st => if cd_k M a = 22 ∧ cd_in j (cd_n M a) = true then (if v &&& 1 = v then κ (ii + 1) ls st (cd_wI M a j.toNatClampNeg v) else none) else none
    | _ => none
  | .lastore => match st with
    | .long v :: .int j :: .ref a :: st => if cd_k M a = 21 ∧ cd_in j (cd_n M a) = true then κ (ii + 1) ls st (cd_wL M a j.toNatClampNeg v) else none
    | _ => none
  | .aastore => match st with
    | .ref v :: .int j :: .ref a :: st => if cd_k M a = o.2.2.2.1 ∧ cd_k M v = o.2.2.2.2.1 ∧ cd_in j (cd_n M a) = true then κ (ii + 1) ls st (cd_wR M a j.toNatClampNeg v) else none
    | _ => none
  | .arraylength => match st with
    | .ref a :: st => if cd_k M a = o.2.2.2.1 then κ (ii + 1) ls (.int (Int32.ofNat (cd_n M a)) :: st) M else none
    | _ => none
  | .new _ => if M.1.length < 900 then κ (ii + 1) ls (.ref M.1.length :: st) (cd_new M o.2.2.2.1 o.2.2.2.2.1) else none
  | .newarray _ => match st with
    | .int n :: st => if n < 0 ∨ 65536 < n ∨ ¬ M.1.length < 900 then none else κ (ii + 1) ls (.ref M.1.length :: st) (cd_new M o.2.2.2.1 n.toNatClampNeg)
    | _ => none
  | .anewarray _ => match st with
    | .int n :: st => if n < 0 ∨ 65536 < n ∨ ¬ M.1.length < 900 then none else κ (ii + 1) ls (.ref M.1.length :: st) (cd_new M o.2.2.2.1 n.toNatClampNeg)
    | _ => none
  | .invokevirtual _ => match o.2.2.2.1 with
    | 9002 => match st with
      | .ref a :: st => bif Nat.ble (cd_cat st) 8 then if 1000 ≤ a ∧ a < 1015 then κ (ii + 1) ls (.int (Int32.ofNat (cd_str a).length) :: st) M else none else none
      | _ => none
    | 9003 => match st with
      | .int j :: .ref a :: st => bif Nat.ble (cd_cat st) 8 then if 1000 ≤ a ∧ a < 1015 ∧ cd_in j (cd_str a).length = true then κ (ii + 1) ls (.int (Int32.ofNat ((cd_str a).getD j.toNatClampNeg 0)) :: st) M else none else none
      | _ => none
    | y => match st.drop o.2.2.2.2.1 with
      | .ref a :: rest => bif Nat.ble (cd_cat rest) 8 then if cd_k M a = o.2.2.2.2.2.headD 98 then match o.2.2.1 with
          | .int _ => (cd_ci (C y (.ref a :: (st.take o.2.2.2.2.1).reverse) M)).bind fun q => κ (ii + 1) ls (.int q.1 :: rest) q.2
          | .long _ => (cd_cl (C y (.ref a :: (st.take o.2.2.2.2.1).reverse) M)).bind fun q => κ (ii + 1) ls (.long q.1 :: rest) q.2
          | .null => (cd_cv (C y (.ref a :: (st.take o.2.2.2.2.1).reverse) M)).bind fun q => κ (ii + 1) ls rest q
          | _ => none
        else none else none
      | _ => none
  | .invokestatic _ => match o.2.2.2.1 with
    | 9000 => match st with
      | .int n :: .int dp :: .ref b :: .int sp :: .ref a :: st => bif Nat.ble (cd_cat st) 8 then if cd_k M a = 20 ∧ cd_k M b = 20 ∧ ¬ sp < 0 ∧ ¬ dp < 0 ∧ ¬ n < 0 ∧ sp.toNatClampNeg + n.toNatClampNeg ≤ cd_n M a ∧ dp.toNatClampNeg + n.toNatClampNeg ≤ cd_n M b then κ (ii + 1) ls st (cd_cp M a sp.toNatClampNeg b dp.toNatClampNeg n.toNatClampNeg) else none else none
      | _ => none
    | 9004 => match st with
      | .int x :: st => bif Nat.ble (cd_cat st) 8 then κ (ii + 1) ls (.int (if 0 ≤ x then x else 0 - x) :: st) M else none
      | _ => none
    | 9005 => match st with
      | .int z :: .int x :: st => bif Nat.ble (cd_cat st) 8 then κ (ii + 1) ls (.int (if x < z then z else x) :: st) M else none
      | _ => none
    | 9006 => match st with
      | .int z :: .int x :: st => bif Nat.ble (cd_cat st) 8 then κ (ii + 1) ls (.int (if z < x then z else x) :: st) M else none
      | _ => none
    | y => bif Nat.ble o.2.2.2.2.1 st.length && Nat.ble (cd_cat (st.drop o.2.2.2.2.1)) 8 then match o.2.2.1 with
          | .int _ => (cd_ci (C y (st.take o.2.2.2.2.1).reverse M)).bind fun q => κ (ii + 1) ls (.int q.1 :: st.drop o.2.2.2.2.1) q.2
          | .long _ => (cd_cl (C y (st.take o.2.2.2.2.1).reverse M)).bind fun q => κ (ii + 1) ls (.long q.1 :: st.drop o.2.2.2.2.1) q.2
          | .null => (cd_cv (C y (st.take o.2.2.2.2.1).reverse M)).bind fun q => κ (ii + 1) ls (st.drop o.2.2.2.2.1) q
          | _ => none
        else none
  | .invokespecial _ => match st with
    | .ref a :: st => bif Nat.ble (cd_cat st) 8 then match o.2.2.2.1 with
      | 9001 => if a ≠ 0 then κ (ii + 1) ls st M else none
      | y => if cd_k M a = o.2.2.2.2.1 then (cd_cv (C y [.ref a] M)).bind fun q => κ (ii + 1) ls st q else none
      else none
    | _ => none
  | .ireturn => match st with
    | [.int v] => if o.2.2.2.1 = 1 then (if v &&& 1 = v then some (some (.int v), M) else none) else some (some (.int v), M)
    | _ => none
  | .lreturn => match st with
    | [.long v] => some (some (.long v), M)
    | _ => none
  | .return_ => match st with
    | [] => some (none, M)
    | _ => none
  | _ => none
