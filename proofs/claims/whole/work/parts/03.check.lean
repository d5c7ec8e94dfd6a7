/-! every row of the tables is what the Statement says: by computation -/
def am_an (t : Nat) : String := match t with | 2 => am_RNode | 3 => am_RHandle | 4 => am_RMacro | _ => am_RPart
def am_dv (ty : FieldType) : Value := match ty with
  | .int => .int 0
  | .boolean => .int 0
  | .long => .long 0
  | _ => .null
def am_len (i : ClassFile.Instr) : Nat := match i with
  | .iload _ => 2
  | .lload _ => 2
  | .aload _ => 2
  | .istore _ => 2
  | .lstore _ => 2
  | .astore _ => 2
  | .bipush _ => 2
  | .newarray _ => 2
  | .sipush _ => 3
  | .ldc2_w _ => 3
  | .iinc _ _ => 3
  | .ifCond _ _ => 3
  | .if_icmp _ _ => 3
  | .goto _ => 3
  | .ifnull _ => 3
  | .ifnonnull _ => 3
  | .getfield _ => 3
  | .putfield _ => 3
  | .getstatic _ => 3
  | .new _ => 3
  | .anewarray _ => 3
  | .invokevirtual _ => 3
  | .invokespecial _ => 3
  | .invokestatic _ => 3
  | .tableswitch _ _ _ _ => 0
  | .lookupswitch _ _ => 0
  | _ => 1
def am_w (pl : Nat) (w : Cond) : Bool := decide (lw_tbl[pl]? = some w)
def am_tok (pc : Nat) (off : Int) : Bool := decide (0 ≤ (pc : Int) + off)
def am_fld (own nm : String) (put : Bool) (k aux : Nat) : Bool := match am_cl[aux / 1000000]? with
  | some (C, T, N) => Nat.blt (aux / 10000 % 100) N && am_w (aux % 10000) (.fieldLink own k C (T (aux / 10000 % 100)).2.1 (T (aux / 10000 % 100)).2.2.1) && (!put || !(T (aux / 10000 % 100)).2.2.2 || (nm == "<init>" && C == own))
  | none => false
def am_mlk (own : String) (k aux : Nat) : Bool := am_w (aux % 10000) (.methodLink own k (am_info (aux / 10000)).1) || am_w (aux % 10000) (.methodLinkNest own k (am_info (aux / 10000)).1 "TapestryDesk")
def am_res (own nm : String) (pc : Nat) (i : ClassFile.Instr) (aux : Nat) : Bool := match i with
  | .ifCond _ off => am_tok pc off
  | .if_icmp _ off => am_tok pc off
  | .goto off => am_tok pc off
  | .ifnull off => am_tok pc off
  | .ifnonnull off => am_tok pc off
  | .tableswitch df _ _ offs => am_tok pc df && offs.toList.all (am_tok pc)
  | .lookupswitch df ps => am_tok pc df && ps.toList.all (fun q => am_tok pc q.2) && (ps.toList.zip (ps.toList.drop 1)).all (fun (a, next) => a.1 < next.1)
  | .getfield k => am_fld own nm false k aux
  | .putfield k => am_fld own nm true k aux
  | .getstatic k => Nat.blt (aux / 10000) 5 && am_w (aux % 10000) (.fieldLink own k (am_sC (aux / 10000)) (am_sN (aux / 10000)) "[I")
  | .ldc2_w k => am_w (aux % 10000) (.constantLong own k (Int64.ofNat (aux / 10000)))
  | .new k => match am_cl[aux / 10000]? with
    | some (C, _, _) => am_w (aux % 10000) (.classLink own k C)
    | none => false
  | .anewarray k => Nat.ble 2 (aux / 10000) && Nat.blt (aux / 10000) 6 && am_w (aux % 10000) (.classLink own k (am_an (aux / 10000)))
  | .newarray a => (decide (a = .int) && Nat.beq aux 0) || (decide (a = .boolean) && Nat.beq aux 10000)
  | .invokevirtual k => Nat.blt (aux / 10000) am_count && am_mlk own k aux
  | .invokespecial k => (Nat.beq (aux / 10000) 1000 && am_w (aux % 10000) (.methodLink own k Lib.objectInit)) || (Nat.blt (aux / 10000) am_count && am_mlk own k aux)
  | .invokestatic k => (Nat.beq (aux / 10000) 1001 && am_w (aux % 10000) (.methodLink own k arraycopyName)) || (Nat.blt (aux / 10000) am_count && am_mlk own k aux)
  | _ => true
def am_chk (z pc : Nat) : Bool := match (am_meth z).2.1 pc with
  | none => true
  | some (i, len, aux) => decide (decode (am_info z).2.1 pc = .ok (i, len)) && (Nat.beq (am_len i) 0 || Nat.beq (am_len i) len) && am_res (am_info z).1.cls (am_info z).1.name pc i aux
def am_all (z : Nat) : Bool := (List.range (am_meth z).1).all (am_chk z)
def am_rk (k : Nat) (r : Option FieldType) : Bool := match k, r with
  | 0, none => true
  | 1, some .int => true
  | 2, some .boolean => true
  | 3, some .long => true
  | 4, some (.object _) => true
  | _, _ => false
def am_rcc (rc : Nat) (y : MethodName) : Bool := match am_cl[rc - 1]? with
  | some (C, _, _) => y.cls == C && !(y.name == "<init>")
  | none => false
/-- a method's own words -/
def am_mok (z : Nat) : Bool :=
  am_w ((am_info z).2.2.2.1 % 10000) (.initialized (am_info z).1.cls) &&
  decide ((parseMethodDescriptor (am_info z).1.desc).map (fun d => d.parameters.length) = some ((am_meth z).2.2.2.1 - (if (am_meth z).2.2.2.2.2 = 0 then 0 else 1))) &&
  plainFor (am_info z).1 && decide ((am_info z).1.cls ≠ "java/lang/invoke/MethodHandle") && decide ((am_info z).1.cls ≠ "java/lang/invoke/VarHandle") &&
  am_rk (am_meth z).2.2.2.2.1 (am_info z).2.2.1 && Nat.ble ((am_meth z).2.2.1 + 19) 64 && Nat.ble (am_meth z).2.2.2.1 (am_meth z).2.2.1 &&
  (bif Nat.beq (am_meth z).2.2.2.2.2 0 then am_w ((am_info z).2.2.2.2 % 10000) (.static (am_info z).1)
   else Nat.blt 0 (am_meth z).2.2.2.1 && am_w ((am_info z).2.2.2.2 % 10000) (.instanceMethod (am_info z).1) && (bif Nat.blt 100 (am_meth z).2.2.2.2.2 then ((am_info z).1.name == "<init>") && am_rk 0 (am_info z).2.2.1
    else am_rcc (am_meth z).2.2.2.2.2 (am_info z).1 && am_w ((am_info z).2.2.2.2 / 10000) (.selects (am_info z).1.cls (am_info z).1 (am_info z).1)))
def am_cok (ci : Nat) : Bool := match am_cl[ci]?, am_cy[ci]? with
  | some (C, T, N), some y => (u_ws C T N).all (fun w => decide (w ∈ lw_tbl) && goodWord w) && (List.range N).all (fun k => decide (parseFieldDescriptor (T k).2.2.1 = some (y k)) && decide ((T k).1 = C) && decide (defaultValue (y k) = am_dv (y k))) &&
      (List.range N).all (fun a => (List.range N).all (fun b => decide (a = b) || decide ((T a).2.1 ≠ (T b).2.1))) && decide (Cond.instantiable C N ∈ lw_tbl) && decide (Cond.initialized C ∈ lw_tbl)
  | _, _ => false
