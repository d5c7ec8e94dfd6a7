/-! the small machine: the program's instructions over a heap of numbered cells, as a function -/
abbrev am_C : Type := (Nat × Nat × ((Nat → Int32) ⊕ (Nat → Option Nat))) ⊕ (Nat × List Value)
abbrev am_H : Type := Nat × Nat × (Nat → am_C)
abbrev am_G : Type := Nat × List (Option Value) × List Value × am_H
def am_fetch (z pc : Nat) : Option (ClassFile.Instr × Nat × Nat) := bif Nat.blt pc (am_meth z).1 then (am_meth z).2.1 pc else none
def am_tgt (pc : Nat) (off : Int) : Nat := ((pc : Int) + off).toNat
def am_ok1 (L : List (Option Value)) (i : Nat) : Bool := match i with
  | 0 => true
  | j + 1 => match L[j]? with
    | some (some (.long _)) => false
    | some (some (.double _)) => false
    | _ => true
def am_ld (pc : Nat) (L : List (Option Value)) (i : Nat) (st : List Value) (h : am_H) : Option am_G := match L[i]? with
  | some (some (.int x)) => some (pc, L, .int x :: st, h)
  | _ => none
def am_ldl (pc : Nat) (L : List (Option Value)) (i : Nat) (st : List Value) (h : am_H) : Option am_G := match L[i]? with
  | some (some (.long x)) => some (pc, L, .long x :: st, h)
  | _ => none
def am_lda (pc : Nat) (L : List (Option Value)) (i : Nat) (st : List Value) (h : am_H) : Option am_G := match L[i]? with
  | some (some (.ref x)) => some (pc, L, .ref x :: st, h)
  | some (some .null) => some (pc, L, .null :: st, h)
  | _ => none
def am_sti (pc : Nat) (L : List (Option Value)) (i : Nat) (st : List Value) (h : am_H) : Option am_G := match st with
  | .int x :: st => bif Nat.blt i L.length && am_ok1 L i then some (pc, L.set i (some (.int x)), st, h) else none
  | _ => none
def am_stl (pc : Nat) (L : List (Option Value)) (i : Nat) (st : List Value) (h : am_H) : Option am_G := match st with
  | .long x :: st => bif Nat.blt (i + 1) L.length && am_ok1 L i then some (pc, (L.set i (some (.long x))).set (i + 1) none, st, h) else none
  | _ => none
def am_sta (pc : Nat) (L : List (Option Value)) (i : Nat) (st : List Value) (h : am_H) : Option am_G := match st with
  | .ref x :: st => bif Nat.blt i L.length && am_ok1 L i then some (pc, L.set i (some (.ref x)), st, h) else none
  | .null :: st => bif Nat.blt i L.length && am_ok1 L i then some (pc, L.set i (some .null), st, h) else none
  | _ => none
def am_fit (ty : FieldType) (v : Value) : Bool := match ty, v with
  | .int, .int _ => true
  | .boolean, .int x => x == 0 || x == 1
  | .long, .long _ => true
  | .object _, .ref _ => true
  | .object _, .null => true
  | .array _, .ref _ => true
  | .array _, .null => true
  | _, _ => false
def am_if (cd : ClassFile.Cond) (pc t : Nat) (x y : Int32) : Nat := match cd with
  | .eq => if x = y then t else pc + 3
  | .ne => if x = y then pc + 3 else t
  | .lt => if x < y then t else pc + 3
  | .ge => if y ≤ x then t else pc + 3
  | .gt => if y < x then t else pc + 3
  | .le => if x ≤ y then t else pc + 3
def am_lk (ps : List (Int × Int)) (df : Int) (x : Int) : Int := Op.lookupswitch.offset ps df x
def am_ac (t : Nat) : Nat := match t with | 2 => 5 | 3 => 2 | 4 => 4 | _ => 7
def am_df (ci : Nat) : List Value := match am_cl[ci]?, am_cy[ci]? with
  | some (_, _, N), some y => (List.range N).map (fun j => am_dv (y j))
  | _, _ => []
def am_step (d : Nat) (i : ClassFile.Instr) (aux pc : Nat) (L : List (Option Value)) (st : List Value) (h : am_H) : Option am_G := match i with
  | .aconst_null => some (pc + 1, L, .null :: st, h)
  | .iconst n => some (pc + 1, L, .int (Int32.ofInt n) :: st, h)
  | .bipush n => some (pc + 2, L, .int (Int8.ofInt n).toInt32 :: st, h)
  | .sipush n => some (pc + 3, L, .int (Int16.ofInt n).toInt32 :: st, h)
  | .lconst n => some (pc + 1, L, .long (Int64.ofNat (n : Nat)) :: st, h)
  | .ldc2_w _ => some (pc + 3, L, .long (Int64.ofNat (aux / 10000)) :: st, h)
  | .iload k => am_ld (pc + 2) L k st h
  | .iload_n k => am_ld (pc + 1) L (k : Nat) st h
  | .lload k => am_ldl (pc + 2) L k st h
  | .lload_n k => am_ldl (pc + 1) L (k : Nat) st h
  | .aload k => am_lda (pc + 2) L k st h
  | .aload_n k => am_lda (pc + 1) L (k : Nat) st h
  | .istore k => am_sti (pc + 2) L k st h
  | .istore_n k => am_sti (pc + 1) L (k : Nat) st h
  | .lstore k => am_stl (pc + 2) L k st h
  | .lstore_n k => am_stl (pc + 1) L (k : Nat) st h
  | .astore k => am_sta (pc + 2) L k st h
  | .astore_n k => am_sta (pc + 1) L (k : Nat) st h
  | .iinc k n => match L[k]? with
    | some (some (.int x)) => bif am_ok1 L k then some (pc + 3, L.set k (some (.int (x + Int32.ofInt n))), st, h) else none
    | _ => none
  | .dup => match st with
    | .int x :: st => some (pc + 1, L, .int x :: .int x :: st, h)
    | .ref x :: st => some (pc + 1, L, .ref x :: .ref x :: st, h)
    | _ => none
  | .dup2 => match st with
    | .int y :: .ref x :: st => some (pc + 1, L, .int y :: .ref x :: .int y :: .ref x :: st, h)
    | _ => none
  | .pop => match st with
    | .int _ :: st => some (pc + 1, L, st, h)
    | _ => none
  | .iadd => match st with | .int y :: .int x :: st => some (pc + 1, L, .int (x + y) :: st, h) | _ => none
  | .isub => match st with | .int y :: .int x :: st => some (pc + 1, L, .int (x - y) :: st, h) | _ => none
  | .imul => match st with | .int y :: .int x :: st => some (pc + 1, L, .int (x * y) :: st, h) | _ => none
  | .iand => match st with | .int y :: .int x :: st => some (pc + 1, L, .int (x &&& y) :: st, h) | _ => none
  | .ior => match st with | .int y :: .int x :: st => some (pc + 1, L, .int (x ||| y) :: st, h) | _ => none
  | .ixor => match st with | .int y :: .int x :: st => some (pc + 1, L, .int (x ^^^ y) :: st, h) | _ => none
  | .ishl => match st with | .int y :: .int x :: st => some (pc + 1, L, .int (x <<< (y &&& 31)) :: st, h) | _ => none
  | .ishr => match st with | .int y :: .int x :: st => some (pc + 1, L, .int (x >>> (y &&& 31)) :: st, h) | _ => none
  | .idiv => match st with | .int y :: .int x :: st => if y = 0 then none else some (pc + 1, L, .int (x / y) :: st, h) | _ => none
  | .irem => match st with | .int y :: .int x :: st => if y = 0 then none else some (pc + 1, L, .int (x - x / y * y) :: st, h) | _ => none
  | .ineg => match st with | .int x :: st => some (pc + 1, L, .int (-x) :: st, h) | _ => none
  | .ladd => match st with | .long y :: .long x :: st => some (pc + 1, L, .long (x + y) :: st, h) | _ => none
  | .lmul => match st with | .long y :: .long x :: st => some (pc + 1, L, .long (x * y) :: st, h) | _ => none
  | .i2l => match st with | .int x :: st => some (pc + 1, L, .long x.toInt64 :: st, h) | _ => none
  | .lcmp => match st with | .long y :: .long x :: st => some (pc + 1, L, .int (lg_cmp x y) :: st, h) | _ => none
  | .ifCond cd off => match st with | .int x :: st => some (am_if cd pc (am_tgt pc off) x 0, L, st, h) | _ => none
  | .if_icmp cd off => match st with | .int y :: .int x :: st => some (am_if cd pc (am_tgt pc off) x y, L, st, h) | _ => none
  | .goto off => some (am_tgt pc off, L, st, h)
  | .ifnull off => match st with
    | .null :: st => some (am_tgt pc off, L, st, h)
    | .ref _ :: st => some (pc + 3, L, st, h)
    | _ => none
  | .ifnonnull off => match st with
    | .null :: st => some (pc + 3, L, st, h)
    | .ref _ :: st => some (am_tgt pc off, L, st, h)
    | _ => none
  | .tableswitch df lo hi offs => match st with
    | .int x :: st => if x.toInt < lo ∨ hi < x.toInt then some (am_tgt pc df, L, st, h) else match offs[(x.toInt - lo).toNat]? with
      | some off => if 0 ≤ (pc : Int) + off then some (am_tgt pc off, L, st, h) else none
      | none => none
    | _ => none
  | .lookupswitch df ps => match st with
    | .int x :: st => if 0 ≤ (pc : Int) + am_lk ps.toList df x.toInt then some (am_tgt pc (am_lk ps.toList df x.toInt), L, st, h) else none
    | _ => none
  | .getfield _ => match st with
    | .ref a :: st => if a < h.1 then match h.2.2 a with
      | .inr (ci, fs) => if ci = aux / 1000000 then match fs[aux / 10000 % 100]? with
        | some v => some (pc + 3, L, v :: st, h)
        | none => none
        else none
      | _ => none
      else none
    | _ => none
  | .putfield _ => match st with
    | v :: .ref a :: st => if a < h.1 then match h.2.2 a with
      | .inr (ci, fs) => if ci = aux / 1000000 ∧ aux / 10000 % 100 < fs.length ∧ am_fit ((am_cy.getD ci (fun _ => .int)) (aux / 10000 % 100)) v = true then some (pc + 3, L, st, (h.1, h.2.1, va_up h.2.2 a (.inr (ci, fs.set (aux / 10000 % 100) v)))) else none
      | _ => none
      else none
    | _ => none
  | .getstatic _ => some (pc + 3, L, .float (UInt32.ofNat (aux / 10000)) :: st, h)
  | .new _ => match am_cl[aux / 10000]? with
    | some (_, _, N) => some (pc + 3, L, .ref h.1 :: st, (h.1 + 1, h.2.1 + N, va_up h.2.2 h.1 (.inr (aux / 10000, am_df (aux / 10000)))))
    | none => none
  | .newarray _ => match st with
    | .int n :: st => if ¬ n < 0 ∧ n.toNatClampNeg ≤ 100000 then some (pc + 2, L, .ref h.1 :: st, (h.1 + 1, h.2.1 + n.toNatClampNeg, va_up h.2.2 h.1 (.inl (aux / 10000, n.toNatClampNeg, .inl (fun _ => 0))))) else none
    | _ => none
  | .anewarray _ => match st with
    | .int n :: st => if ¬ n < 0 ∧ n.toNatClampNeg ≤ 100000 then some (pc + 3, L, .ref h.1 :: st, (h.1 + 1, h.2.1 + n.toNatClampNeg, va_up h.2.2 h.1 (.inl (aux / 10000, n.toNatClampNeg, .inr (fun _ => none))))) else none
    | _ => none
  | .arraylength => match st with
    | .ref a :: st => if a < h.1 then match h.2.2 a with
      | .inl (t, n, _) => if t < 6 then some (pc + 1, L, .int (Int32.ofNat n) :: st, h) else none
      | _ => none
      else none
    | .float j :: st => if j.toNat < 5 then some (pc + 1, L, .int (Int32.ofNat (am_sV j.toNat).length) :: st, h) else none
    | _ => none
  | .iaload => match st with
    | .int i :: .ref a :: st => if a < h.1 then match h.2.2 a with
      | .inl (0, n, .inl f) => if ¬ i < 0 ∧ i.toNatClampNeg < n then some (pc + 1, L, .int (f i.toNatClampNeg) :: st, h) else none
      | _ => none
      else none
    | .int i :: .float j :: st => if j.toNat < 5 ∧ ¬ i < 0 ∧ i.toNatClampNeg < (am_sV j.toNat).length then some (pc + 1, L, .int ((am_sV j.toNat).getD i.toNatClampNeg 0) :: st, h) else none
    | _ => none
  | .baload => match st with
    | .int i :: .ref a :: st => if a < h.1 then match h.2.2 a with
      | .inl (1, n, .inl f) => if ¬ i < 0 ∧ i.toNatClampNeg < n then some (pc + 1, L, .int (f i.toNatClampNeg) :: st, h) else none
      | _ => none
      else none
    | _ => none
  | .aaload => match st with
    | .int i :: .ref a :: st => if a < h.1 then match h.2.2 a with
      | .inl (t, n, .inr f) => if (2 ≤ t ∧ t < 6) ∧ ¬ i < 0 ∧ i.toNatClampNeg < n then some (pc + 1, L, va_rf (f i.toNatClampNeg) :: st, h) else none
      | _ => none
      else none
    | _ => none
  | .iastore => match st with
    | .int x :: .int i :: .ref a :: st => if a < h.1 then match h.2.2 a with
      | .inl (0, n, .inl f) => if ¬ i < 0 ∧ i.toNatClampNeg < n then some (pc + 1, L, st, (h.1, h.2.1, va_up h.2.2 a (.inl (0, n, .inl (va_up f i.toNatClampNeg x))))) else none
      | _ => none
      else none
    | _ => none
  | .bastore => match st with
    | .int x :: .int i :: .ref a :: st => if a < h.1 then match h.2.2 a with
      | .inl (1, n, .inl f) => if ¬ i < 0 ∧ i.toNatClampNeg < n then some (pc + 1, L, st, (h.1, h.2.1, va_up h.2.2 a (.inl (1, n, .inl (va_up f i.toNatClampNeg (x &&& 1)))))) else none
      | _ => none
      else none
    | _ => none
  | .aastore => match st with
    | .ref v :: .int i :: .ref a :: st => if a < h.1 ∧ v < h.1 then match h.2.2 a, h.2.2 v with
      | .inl (t, n, .inr f), .inr (ci, _) => if (2 ≤ t ∧ t < 6) ∧ ci = am_ac t ∧ ¬ i < 0 ∧ i.toNatClampNeg < n then some (pc + 1, L, st, (h.1, h.2.1, va_up h.2.2 a (.inl (t, n, .inr (va_up f i.toNatClampNeg (some v)))))) else none
      | _, _ => none
      else none
    | _ => none
  | .invokespecial _ => if aux / 10000 = 1000 ∧ 0 < d then match st with
    | .ref _ :: st => if (st.map fun v => v.category).sum ≤ 8 then some (pc + 3, L, st, h) else none
    | _ => none
    else none
  | .invokestatic _ => if aux / 10000 = 1001 ∧ 0 < d then match st with
    | .int n :: .int dp :: .ref a :: .int sp :: .ref a0 :: st => if a < h.1 ∧ a0 < h.1 ∧ (st.map fun v => v.category).sum ≤ 8 then match h.2.2 a0, h.2.2 a with
      | .inl (0, n0, .inl f), .inl (0, n1, .inl g) => if ¬ sp < 0 ∧ ¬ dp < 0 ∧ ¬ n < 0 ∧ sp.toNatClampNeg + n.toNatClampNeg ≤ n0 ∧ dp.toNatClampNeg + n.toNatClampNeg ≤ n1 then some (pc + 3, L, st, (h.1, h.2.1, va_up h.2.2 a (.inl (0, n1, .inl (va_cpy f g sp.toNatClampNeg dp.toNatClampNeg n.toNatClampNeg))))) else none
      | _, _ => none
      else none
    | _ => none
    else none
  | _ => none
def am_args : Nat → List Value → List Value → Option (List Value × List Value)
  | 0, acc, st => some (acc, st)
  | n + 1, acc, v :: st => am_args n (v :: acc) st
  | _ + 1, _, [] => none
def am_entry (z : Nat) (as : List Value) : List (Option Value) := as.map some ++ List.replicate ((am_meth z).2.2.1 - as.length) none
/-- what a call needs: the callee's number, its arguments with the receiver, what stays on the stack -/
def am_c1 (v : Value) : Bool := match v with
  | .long _ => false
  | .double _ => false
  | _ => true
def am_rcv (k : Nat) (z : Nat) (as : List Value) (h : am_H) : Bool := as.all am_c1 && match k with
  | 0 => Nat.beq (am_meth z).2.2.2.2.2 0
  | 1 => match as with
    | .ref b :: _ => Nat.blt 100 (am_meth z).2.2.2.2.2
    | _ => false
  | _ => match as with
    | .ref b :: _ => Nat.blt b h.1 && (match h.2.2 b with
      | .inr (ci, _) => Nat.beq (ci + 1) (am_meth z).2.2.2.2.2
      | _ => false)
    | _ => false
def am_ret (z : Nat) (i : ClassFile.Instr) (st : List Value) (h : am_H) : Option (Option Value × am_H) := match i, st with
  | .ireturn, [.int v] => if (am_meth z).2.2.2.2.1 = 1 ∨ ((am_meth z).2.2.2.2.1 = 2 ∧ (v = 0 ∨ v = 1)) then some (some (.int v), h) else none
  | .lreturn, [.long v] => if (am_meth z).2.2.2.2.1 = 3 then some (some (.long v), h) else none
  | .areturn, [.ref v] => if (am_meth z).2.2.2.2.1 = 4 then some (some (.ref v), h) else none
  | .areturn, [.null] => if (am_meth z).2.2.2.2.1 = 4 then some (some .null, h) else none
  | .return_, [] => if (am_meth z).2.2.2.2.1 = 0 then some (none, h) else none
  | _, _ => none
/-- which call: 0 of a static method, 1 of a constructor, 2 of an instance's method; 9 none -/
def am_kind (i : ClassFile.Instr) (aux : Nat) : Nat := match i with
  | .invokestatic _ => if aux / 10000 < am_count then 0 else 9
  | .invokespecial _ => if aux / 10000 < am_count then 1 else 9
  | .invokevirtual _ => if aux / 10000 < am_count then 2 else 9
  | .ireturn => 3
  | .lreturn => 3
  | .areturn => 3
  | .return_ => 3
  | _ => 9
def am_run : Nat → Nat → Nat → am_G → Option (Option Value × am_H)
  | 0, _, _, _ => none
  | f + 1, d, z, g => match am_fetch z g.1 with
    | none => none
    | some (i, _, aux) => match am_kind i aux with
      | 9 => match am_step d i aux g.1 g.2.1 g.2.2.1 g.2.2.2 with
        | some g' => am_run f d z g'
        | none => none
      | 3 => am_ret z i g.2.2.1 g.2.2.2
      | k => if d = 0 then none else match am_args (am_meth (aux / 10000)).2.2.2.1 [] g.2.2.1 with
        | some (as, rest) => if am_rcv k (aux / 10000) as g.2.2.2 = true ∧ (rest.map fun v => v.category).sum ≤ 8 then match am_run f (d - 1) (aux / 10000) (0, am_entry (aux / 10000) as, [], g.2.2.2) with
          | some (r, h1) => am_run f d z (g.1 + 3, g.2.1, r.toList ++ rest, h1)
          | none => none
          else none
        | none => none
