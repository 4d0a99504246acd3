/-! the rows are right: each is what the bytes say, and its word stands in the table -/
def am_len (i : Instr) : Nat := match i with
  | .bipush _ | .ldc _ | .iload _ | .lload _ | .aload _ | .istore _ | .lstore _ | .astore _ | .newarray _ => 2
  | .sipush _ | .ldc_w _ | .ldc2_w _ | .iinc _ _ | .ifCond _ _ | .if_icmp _ _ | .if_acmp _ _ | .goto _ | .getfield _ | .putfield _ | .getstatic _ | .anewarray _ | .new _ | .checkcast _ | .invokevirtual _ | .invokespecial _ | .invokestatic _ => 3
  | _ => 1
def am_sw (i : Instr) : Bool := match i with
  | .tableswitch .. => true
  | _ => false
def am_dok (cc : ByteArray) (pc : Nat) (i : Instr) : Bool := match decode cc pc with
  | .ok (j, n) => decide (j = i) && (am_sw j || n == am_len j)
  | _ => false
def am_w (q : Nat) (w : Jvm.Cond) : Bool := decide (lw_tbl[q]? = some w)
def am_fok (own idx a b q : Nat) (z : Int) : Bool := match vwCl[a]? with
  | some (_, T, N) => decide (b < N) && (if z = 0 then am_w q (.fieldLink (am_cnm own) idx (T b).1 (T b).2.1 (T b).2.2.1) else if z = 1 then am_w q (.fieldLinkNest (am_cnm own) idx (T b).1 (T b).2.1 (T b).2.2.1 "CriersOffice") else am_w q (.fieldLink (am_cnm own) idx RJx4a65c (T b).2.1 (T b).2.2.1) && am_w 98 (.sameField RJx4a65c (T b).1 (T b).2.1 (T b).2.2.1))
  | none => false
def am_pok (own a b : Nat) (z : Int) : Bool := match vwCl[a]? with
  | some (_, T, _) => if (T b).2.2.2 = true then decide (z = 0 ∧ (T b).1 = am_cnm own) else true
  | none => false
def am_gcN : MethodName := ⟨"java/lang/Object", "getClass", "()Ljava/lang/Class;"⟩
def am_mok (own idx a b q : Nat) (z : Int) (st : Bool) (ini : Bool) : Bool := match am_my[a - 10]? with
  | some Y => decide (10 ≤ a) && (if z = 0 then am_w q (.methodLink (am_cnm own) idx Y.1) else am_w q (.methodLinkNest (am_cnm own) idx Y.1 "CriersOffice")) && decide (Y.2.2.2.1 = b) && decide (Y.2.2.2.2.1 = st) && decide ((Y.1.name = "<init>") = (ini = true))
  | none => false
def am_rok (own : Nat) (cc : ByteArray) (e : Nat × am_R) : Bool := am_dok cc e.1 e.2.1 && (match e with
  | (_, i, a, b, q, z) => match i with
    | .getfield idx => am_fok own idx a b q z
    | .putfield idx => am_fok own idx a b q z && am_pok own a b z
    | .new idx => (match vwCl[a]? with
      | some (C, _, N) => am_w q (.classLink (am_cnm own) idx C) && am_w b (.instantiable C N) && am_w z.toNat (.initialized C)
      | none => false)
    | .anewarray idx => (a == 3 && am_w q (.classLink (am_cnm own) idx "java/lang/Object")) || (a == 4 && am_w q (.classLink (am_cnm own) idx RX6))
    | .checkcast idx => (match vwCl[a]? with
      | some (C, _, _) => am_w q (.classLink (am_cnm own) idx C)
      | none => false)
    | .ldc idx => if a = 1 then am_w q (.classLink (am_cnm own) idx "[Ljava/lang/Object;") else am_w q (.constant (am_cnm own) idx (Int32.ofInt z))
    | .ldc_w idx => am_w q (.constant (am_cnm own) idx (Int32.ofInt z))
    | .ldc2_w idx => am_w q (.constantLong (am_cnm own) idx (Int64.ofInt z))
    | .getstatic idx => am_w q (.fieldLink (am_cnm own) idx RJx4a65c "DEFAULTCAPACITY_EMPTY_ELEMENTDATA" "[Ljava/lang/Object;")
    | .invokevirtual idx => if a = 1 then am_w q (.methodLink (am_cnm own) idx am_gcN) else am_mok own idx a b q z false false
    | .invokespecial idx => if a = 0 then am_w q (.methodLink (am_cnm own) idx objectInit) else am_mok own idx a b q z false true
    | .invokestatic idx => if a = 2 ∨ a = 3 then am_w q (.methodLink (am_cnm own) idx arraycopyName) else if a = 4 then am_w q (.methodLink (am_cnm own) idx Lib.Math.abs.name) else if a = 5 then am_w q (.methodLink (am_cnm own) idx Lib.Math.max.name) else if a = 6 then am_w q (.methodLink (am_cnm own) idx Lib.Math.min.name) else am_mok own idx a b q z true false
    | _ => true)
def am_yok (M : am_M) (Y : am_Y) : Bool := match Y with
  | (y, c, ret, np, st, pc, pi, pk, ps) => am_w pc (.code y c M.2.2.2.1 ret) && am_w pi (.initialized y.cls) && (if st = true then am_w pk (.static y) else am_w pk (.instanceMethod y)) && (if st = true then true else if y.name = "<init>" then true else am_w ps (.selects y.cls y y)) && decide (y.cls ≠ "java/lang/invoke/MethodHandle" ∧ y.cls ≠ "java/lang/invoke/VarHandle") && plainName y.cls && decide ((parseMethodDescriptor y.desc).map (fun d => d.parameters.length) = some np) && decide (y.cls = am_cnm M.1) && decide (M.2.1 = decide (y.name = "<init>"))
    && (match M.2.2.1 with
      | 0 => decide (ret = some .int)
      | 1 => decide (ret = some .boolean)
      | 2 => decide (ret = some .long)
      | 3 => (match ret with
        | some (.object _) => true
        | some (.array _) => true
        | _ => false)
      | 4 => decide (ret = none)
      | _ => false)
def am_chk (i : Nat) : Bool := match am_mt[i]? with
  | some M => (match am_my[i]? with
    | some Y => am_yok M Y && M.2.2.2.2.2.2.all (am_rok M.1 Y.2.1)
    | none => false)
  | none => false
def am_chkL (lo n : Nat) : Bool := ((am_t195.drop lo).take n).all (am_rok 19 cL_law)
theorem am_rng {a n : Nat} {f : Nat → Bool} (h : (List.range' a n).all f = true) {i : Nat} (h1 : a ≤ i) (h2 : i < a + n) : f i = true := List.all_eq_true.mp h i (List.mem_range'_1.mpr ⟨h1, h2⟩)
