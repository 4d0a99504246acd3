/-! A machine in small: cells, frames, one step, a run. Cells of the heap are numbered in the order of their making; 0 is the script, 1 ArrayList's empty array, 2 the class object of Object[]. -/
abbrev am_C : Type := (Nat × vp_A) ⊕ (Nat × List Value)
abbrev am_H : Type := List am_C
abbrev am_L : Type := List (Option Value)
abbrev am_F : Type := Nat × am_L × List Value
abbrev am_O : Type := (am_F × am_H) ⊕ (Option Value ⊕ (Nat × List Value × am_F))
def am_nx (pc : Nat) (ls : am_L) (st : List Value) (h : am_H) : Option am_O := some (.inl ((pc, ls, st), h))
def am_tg (pc : Nat) (off : Int) : Option Nat := match (pc : Int) + off with
  | .ofNat n => some n
  | .negSucc _ => none
def am_jp (pc : Nat) (off : Int) (ls : am_L) (st : List Value) (h : am_H) : Option am_O := match am_tg pc off with
  | some t => am_nx t ls st h
  | none => none
def am_br (c : Bool) (pc : Nat) (off : Int) (ls : am_L) (st : List Value) (h : am_H) : Option am_O := match am_tg pc off with
  | some t => if c = true then am_nx t ls st h else am_nx (pc + 3) ls st h
  | none => none
def am_cd (k : Jvm.ClassFile.Cond) (x y : Int32) : Bool := match k with
  | .eq => decide (x = y)
  | .ne => decide (¬ x = y)
  | .lt => decide (x < y)
  | .ge => decide (y ≤ x)
  | .gt => decide (y < x)
  | .le => decide (x ≤ y)
def am_pv (ls : am_L) (i : Nat) : Bool := match i with
  | 0 => true
  | j + 1 => match ls[j]? with
    | some (some w) => w.category == 1
    | _ => true
def am_st1 (ls : am_L) (i : Nat) (v : Value) : Option am_L := if i < ls.length ∧ am_pv ls i = true then some (ls.set i (some v)) else none
def am_st2 (ls : am_L) (i : Nat) (v : Value) : Option am_L := if i + 1 < ls.length ∧ am_pv ls i = true then some ((ls.set i (some v)).set (i + 1) none) else none
def am_ldI (pc i : Nat) (ls : am_L) (st : List Value) (h : am_H) : Option am_O := match ls[i]? with
  | some (some (.int x)) => am_nx pc ls (.int x :: st) h
  | _ => none
def am_ldL (pc i : Nat) (ls : am_L) (st : List Value) (h : am_H) : Option am_O := match ls[i]? with
  | some (some (.long x)) => am_nx pc ls (.long x :: st) h
  | _ => none
def am_ldA (pc i : Nat) (ls : am_L) (st : List Value) (h : am_H) : Option am_O := match ls[i]? with
  | some (some (.ref x)) => am_nx pc ls (.ref x :: st) h
  | _ => none
def am_stI (pc i : Nat) (ls : am_L) (st : List Value) (h : am_H) : Option am_O := match st with
  | .int x :: r => match am_st1 ls i (.int x) with
    | some ls' => am_nx pc ls' r h
    | none => none
  | _ => none
def am_stL (pc i : Nat) (ls : am_L) (st : List Value) (h : am_H) : Option am_O := match st with
  | .long x :: r => match am_st2 ls i (.long x) with
    | some ls' => am_nx pc ls' r h
    | none => none
  | _ => none
def am_stA (pc i : Nat) (ls : am_L) (st : List Value) (h : am_H) : Option am_O := match st with
  | .ref x :: r => match am_st1 ls i (.ref x) with
    | some ls' => am_nx pc ls' r h
    | none => none
  | _ => none
def am_inc (pc i : Nat) (k : Int) (ls : am_L) (st : List Value) (h : am_H) : Option am_O := match ls[i]? with
  | some (some (.int x)) => match am_st1 ls i (.int (x + Int32.ofInt k)) with
    | some ls' => am_nx pc ls' st h
    | none => none
  | _ => none
def am_b2 (f : Int32 → Int32 → Int32) (pc : Nat) (ls : am_L) (st : List Value) (h : am_H) : Option am_O := match st with
  | .int y :: .int x :: r => am_nx (pc + 1) ls (.int (f x y) :: r) h
  | _ => none
def am_b2z (f : Int32 → Int32 → Int32) (pc : Nat) (ls : am_L) (st : List Value) (h : am_H) : Option am_O := match st with
  | .int y :: .int x :: r => if y = 0 then none else am_nx (pc + 1) ls (.int (f x y) :: r) h
  | _ => none
def am_u1 (f : Int32 → Int32) (pc : Nat) (ls : am_L) (st : List Value) (h : am_H) : Option am_O := match st with
  | .int x :: r => am_nx (pc + 1) ls (.int (f x) :: r) h
  | _ => none
def am_l2 (f : Int64 → Int64 → Int64) (pc : Nat) (ls : am_L) (st : List Value) (h : am_H) : Option am_O := match st with
  | .long y :: .long x :: r => am_nx (pc + 1) ls (.long (f x y) :: r) h
  | _ => none
def am_lcm (pc : Nat) (ls : am_L) (st : List Value) (h : am_H) : Option am_O := match st with
  | .long y :: .long x :: r => am_nx (pc + 1) ls (.int (lg_cmp x y) :: r) h
  | _ => none
def am_i2l (pc : Nat) (ls : am_L) (st : List Value) (h : am_H) : Option am_O := match st with
  | .int x :: r => am_nx (pc + 1) ls (.long x.toInt64 :: r) h
  | _ => none
def am_dup (pc : Nat) (ls : am_L) (st : List Value) (h : am_H) : Option am_O := match st with
  | v :: r => if v.category = 1 then am_nx (pc + 1) ls (v :: v :: r) h else none
  | _ => none
def am_pop (pc : Nat) (ls : am_L) (st : List Value) (h : am_H) : Option am_O := match st with
  | v :: r => if v.category = 1 then am_nx (pc + 1) ls r h else none
  | _ => none
def am_dx1 (pc : Nat) (ls : am_L) (st : List Value) (h : am_H) : Option am_O := match st with
  | v :: w :: r => if v.category = 1 ∧ w.category = 1 then am_nx (pc + 1) ls (v :: w :: v :: r) h else none
  | _ => none
def am_du2 (pc : Nat) (ls : am_L) (st : List Value) (h : am_H) : Option am_O := match st with
  | v :: w :: r => if v.category = 1 ∧ w.category = 1 then am_nx (pc + 1) ls (v :: w :: v :: w :: r) h else none
  | _ => none
def am_if1 (k : Jvm.ClassFile.Cond) (pc : Nat) (off : Int) (ls : am_L) (st : List Value) (h : am_H) : Option am_O := match st with
  | .int x :: r => am_br (am_cd k x 0) pc off ls r h
  | _ => none
def am_if2 (k : Jvm.ClassFile.Cond) (pc : Nat) (off : Int) (ls : am_L) (st : List Value) (h : am_H) : Option am_O := match st with
  | .int y :: .int x :: r => am_br (am_cd k x y) pc off ls r h
  | _ => none
def am_ifa (k : Jvm.ClassFile.ACond) (pc : Nat) (off : Int) (ls : am_L) (st : List Value) (h : am_H) : Option am_O := match st with
  | .ref y :: .ref x :: r =>
    if (x = 2 ∧ y = 2) ∨ ((x = 1 ∨ 3 ≤ x) ∧ (y = 1 ∨ 3 ≤ y)) then
      am_br (match k with
        | .eq => decide (x = y)
        | .ne => decide (¬ x = y)) pc off ls r h
    else none
  | _ => none
def am_tsw (d lo hi : Int) (offs : Array Int) (pc : Nat) (ls : am_L) (st : List Value) (h : am_H) : Option am_O := match st with
  | .int x :: r => if x.toInt < lo ∨ hi < x.toInt then am_jp pc d ls r h else match offs[(x.toInt - lo).toNat]? with
    | some off => am_jp pc off ls r h
    | none => none
  | _ => none
def am_gf (a b pc : Nat) (ls : am_L) (st : List Value) (h : am_H) : Option am_O := match st with
  | .ref x :: r => match h[x]? with
    | some (.inr (ci, fs)) => if ci = a then match fs[b]? with
        | some v => am_nx (pc + 3) ls (v :: r) h
        | none => none
      else none
    | _ => none
  | _ => none
def am_okf (ty : FieldType) (v : Value) : Bool := match ty, v with
  | .int, .int _ => true
  | .boolean, .int x => decide (x = 0 ∨ x = 1)
  | .object _, .ref _ => true
  | .array _, .ref _ => true
  | _, _ => false
def am_tyf (a b : Nat) : FieldType := (am_tyl.getD a (fun _ => .double)) b
def am_fin (a b : Nat) : Bool := match vwCl[a]? with
  | some (_, T, _) => (T b).2.2.2
  | none => true
def am_pf (M : am_M) (a b pc : Nat) (ls : am_L) (st : List Value) (h : am_H) : Option am_O := match st with
  | v :: .ref x :: r => match h[x]? with
    | some (.inr (ci, fs)) => if ci = a ∧ b < fs.length ∧ am_okf (am_tyf a b) v = true ∧ (am_fin a b = true → M.2.1 = true ∧ M.1 = a) then am_nx (pc + 3) ls r (h.set x (.inr (ci, fs.set b v))) else none
    | _ => none
  | _ => none
def am_out (i : Int32) (n : Nat) : Prop := i < 0 ∨ n ≤ i.toNatClampNeg
def am_outb (i : Int32) (n : Nat) : Bool := decide (i < 0) || decide (n ≤ i.toNatClampNeg)
def am_ial (pc : Nat) (ls : am_L) (st : List Value) (h : am_H) : Option am_O := match st with
  | .int i :: .ref x :: r => match h[x]? with
    | some (.inl (t, n, .inl f)) => if (t = 0 ∨ (t = 9 ∧ x = 0)) ∧ am_outb i n = false then am_nx (pc + 1) ls (.int (f i.toNatClampNeg) :: r) h else none
    | _ => none
  | _ => none
def am_bal (pc : Nat) (ls : am_L) (st : List Value) (h : am_H) : Option am_O := match st with
  | .int i :: .ref x :: r => match h[x]? with
    | some (.inl (t, n, .inl f)) => if (t = 1 ∨ t = 2) ∧ am_outb i n = false then am_nx (pc + 1) ls (.int (f i.toNatClampNeg) :: r) h else none
    | _ => none
  | _ => none
def am_aal (pc : Nat) (ls : am_L) (st : List Value) (h : am_H) : Option am_O := match st with
  | .int i :: .ref x :: r => match h[x]? with
    | some (.inl (t, n, .inr (.inr (.inr (.inr f))))) => if (t = 3 ∨ t = 4) ∧ am_outb i n = false then am_nx (pc + 1) ls (va_rf (f i.toNatClampNeg) :: r) h else none
    | _ => none
  | _ => none
def am_ias (pc : Nat) (ls : am_L) (st : List Value) (h : am_H) : Option am_O := match st with
  | .int v :: .int i :: .ref x :: r => match h[x]? with
    | some (.inl (t, n, .inl f)) => if t = 0 ∧ am_outb i n = false then am_nx (pc + 1) ls r (h.set x (.inl (t, n, .inl (upd f i.toNatClampNeg v)))) else none
    | _ => none
  | _ => none
def am_nrw (t : Nat) (v : Int32) : Int32 := if t = 1 then vp_nar .byte v else vp_nar .boolean v
def am_bas (pc : Nat) (ls : am_L) (st : List Value) (h : am_H) : Option am_O := match st with
  | .int v :: .int i :: .ref x :: r => match h[x]? with
    | some (.inl (t, n, .inl f)) => if (t = 1 ∨ t = 2) ∧ am_outb i n = false then am_nx (pc + 1) ls r (h.set x (.inl (t, n, .inl (upd f i.toNatClampNeg (am_nrw t v))))) else none
    | _ => none
  | _ => none
def am_obj (h : am_H) (y : Nat) : Option Nat := match h[y]? with
  | some (.inr (ci, _)) => if ci < 12 then some ci else none
  | _ => none
def am_aas (pc : Nat) (ls : am_L) (st : List Value) (h : am_H) : Option am_O := match st with
  | .ref v :: .int i :: .ref x :: r => match h[x]? with
    | some (.inl (t, n, .inr (.inr (.inr (.inr f))))) => match am_obj h v with
      | some ci => if (t = 3 ∨ (t = 4 ∧ ci = 7)) ∧ am_outb i n = false then am_nx (pc + 1) ls r (h.set x (.inl (t, n, .inr (.inr (.inr (.inr (va_up f i.toNatClampNeg (some v)))))))) else none
      | none => none
    | _ => none
  | _ => none
def am_aln (pc : Nat) (ls : am_L) (st : List Value) (h : am_H) : Option am_O := match st with
  | .ref x :: r => match h[x]? with
    | some (.inl (t, n, _)) => if t < 5 ∨ (t = 9 ∧ x = 0) ∨ (t = 8 ∧ x = 1) then am_nx (pc + 1) ls (.int (Int32.ofNat n) :: r) h else none
    | _ => none
  | _ => none
def am_nwa (ty : ArrayType) (pc : Nat) (ls : am_L) (st : List Value) (h : am_H) : Option am_O := match st with
  | .int n :: r => if ¬ n < 0 ∧ n.toNatClampNeg ≤ 100000 then match ty with
      | .int => am_nx (pc + 2) ls (.ref h.length :: r) (h ++ [.inl (0, n.toNatClampNeg, .inl (fun _ => 0))])
      | .byte => am_nx (pc + 2) ls (.ref h.length :: r) (h ++ [.inl (1, n.toNatClampNeg, .inl (fun _ => 0))])
      | .boolean => am_nx (pc + 2) ls (.ref h.length :: r) (h ++ [.inl (2, n.toNatClampNeg, .inl (fun _ => 0))])
      | _ => none
    else none
  | _ => none
def am_anw (a pc : Nat) (ls : am_L) (st : List Value) (h : am_H) : Option am_O := match st with
  | .int n :: r => if ¬ n < 0 ∧ n.toNatClampNeg ≤ 100000 then am_nx (pc + 3) ls (.ref h.length :: r) (h ++ [.inl (a, n.toNatClampNeg, .inr (.inr (.inr (.inr (fun _ => none)))))]) else none
  | _ => none
def am_new (a pc : Nat) (ls : am_L) (st : List Value) (h : am_H) : Option am_O := am_nx (pc + 3) ls (.ref h.length :: st) (h ++ [.inr (a, am_dfl.getD a [])])
def am_cst (a pc : Nat) (ls : am_L) (st : List Value) (h : am_H) : Option am_O := match st with
  | .ref x :: r => match h[x]? with
    | some (.inr (ci, _)) => if ci = a then am_nx (pc + 3) ls (.ref x :: r) h else none
    | _ => none
  | _ => none
def am_ent (as : List Value) : am_L := as.flatMap fun v => if v.category = 2 then [some v, none] else [some v]
def am_sum (st : List Value) : Nat := (st.map fun v => v.category).sum
def am_cl (M : am_M) (mj : Nat) (as rest : List Value) (pc : Nat) (ls : am_L) : Option am_O := match am_mt[mj]? with
  | some N => if am_sum rest ≤ 8 ∧ N.2.2.2.2.1 + 1 ≤ M.2.2.2.2.1 ∧ 8 + (N.2.2.2.1 + 11) + N.2.2.2.2.2.1 ≤ M.2.2.2.2.2.1 ∧ (am_ent as).length ≤ N.2.2.2.1 then some (.inr (.inr (mj, as, (pc + 3, ls, rest)))) else none
  | none => none
def am_own (mj : Nat) : Nat := match am_mt[mj]? with
  | some N => N.1
  | none => 1000
def am_nat (M : am_M) (st : List Value) : Bool := decide (1 ≤ M.2.2.2.2.1) && decide (am_sum st + 20 ≤ M.2.2.2.2.2.1)
def am_ivv (M : am_M) (a b pc : Nat) (ls : am_L) (st : List Value) (h : am_H) : Option am_O :=
  if a = 1 then match st with
    | .ref x :: r => match h[x]? with
      | some (.inl (3, _)) => if am_nat M r = true ∧ 3 ≤ x then am_nx (pc + 3) ls (.ref 2 :: r) h else none
      | _ => none
    | _ => none
  else match a with
    | mj + 10 => match st.drop b with
      | .ref x :: r => match h[x]? with
        | some (.inr (ci, _)) => if ci = am_own mj ∧ b ≤ st.length then am_cl M mj (.ref x :: (st.take b).reverse) r pc ls else none
        | _ => none
      | _ => none
    | _ => none
def am_ivi (M : am_M) (a b pc : Nat) (ls : am_L) (st : List Value) (_h : am_H) : Option am_O :=
  if a = 0 then match st with
    | .ref _ :: r => if am_nat M r = true then am_nx (pc + 3) ls r _h else none
    | _ => none
  else match a with
    | mj + 10 => match st.drop b with
      | .ref x :: r => if b ≤ st.length then am_cl M mj (.ref x :: (st.take b).reverse) r pc ls else none
      | _ => none
    | _ => none
def am_cpr (h : am_H) (f : Nat → Option Nat) (sp n : Nat) : Bool := (List.range n).all fun i => match f (sp + i) with
  | some y => (am_obj h y).isSome
  | none => true
def am_cpb (f : Nat → Int32) (sp n : Nat) : Bool := (List.range n).all fun i => fits .byte (.int (f (sp + i)))
def am_cpi (sp dp n : Int32) (n0 n1 : Nat) : Bool := decide (¬ sp < 0) && decide (¬ dp < 0) && decide (¬ n < 0) && decide (sp.toNatClampNeg + n.toNatClampNeg ≤ n0) && decide (dp.toNatClampNeg + n.toNatClampNeg ≤ n1)
def am_ivs (M : am_M) (a b pc : Nat) (ls : am_L) (st : List Value) (h : am_H) : Option am_O :=
  if a = 2 then match st with
    | .int n :: .int dp :: .ref y :: .int sp :: .ref x :: r => match h[x]? with
      | some (.inl (3, n0, .inr (.inr (.inr (.inr f))))) => match h[y]? with
        | some (.inl (3, n1, .inr (.inr (.inr (.inr g))))) => if am_nat M r = true ∧ am_cpi sp dp n n0 n1 = true ∧ am_cpr h f sp.toNatClampNeg n.toNatClampNeg = true then am_nx (pc + 3) ls r (h.set y (.inl (3, n1, .inr (.inr (.inr (.inr (va_cpy f g sp.toNatClampNeg dp.toNatClampNeg n.toNatClampNeg))))))) else none
        | _ => none
      | _ => none
    | _ => none
  else if a = 3 then match st with
    | .int n :: .int dp :: .ref y :: .int sp :: .ref x :: r => match h[x]? with
      | some (.inl (1, n0, .inl f)) => match h[y]? with
        | some (.inl (1, n1, .inl g)) => if am_nat M r = true ∧ am_cpi sp dp n n0 n1 = true ∧ am_cpb f sp.toNatClampNeg n.toNatClampNeg = true then am_nx (pc + 3) ls r (h.set y (.inl (1, n1, .inl (va_cpy f g sp.toNatClampNeg dp.toNatClampNeg n.toNatClampNeg)))) else none
        | _ => none
      | _ => none
    | _ => none
  else if a = 4 then match st with
    | .int x :: r => if am_nat M r = true then am_nx (pc + 3) ls (.int (if 0 ≤ x then x else 0 - x) :: r) h else none
    | _ => none
  else if a = 5 then match st with
    | .int y :: .int x :: r => if am_nat M r = true then am_nx (pc + 3) ls (.int (if x < y then y else x) :: r) h else none
    | _ => none
  else if a = 6 then match st with
    | .int y :: .int x :: r => if am_nat M r = true then am_nx (pc + 3) ls (.int (if y < x then y else x) :: r) h else none
    | _ => none
  else match a with
    | mj + 10 => if b ≤ st.length then am_cl M mj (st.take b).reverse (st.drop b) pc ls else none
    | _ => none
def am_rtI (M : am_M) (st : List Value) : Option am_O := match st with
  | [.int x] => if M.2.2.1 = 0 ∨ (M.2.2.1 = 1 ∧ (x = 0 ∨ x = 1)) then some (.inr (.inl (some (.int x)))) else none
  | _ => none
def am_rtL (M : am_M) (st : List Value) : Option am_O := match st with
  | [.long x] => if M.2.2.1 = 2 then some (.inr (.inl (some (.long x)))) else none
  | _ => none
def am_rtA (M : am_M) (st : List Value) : Option am_O := match st with
  | [.ref x] => if M.2.2.1 = 3 then some (.inr (.inl (some (.ref x)))) else none
  | _ => none
def am_rtV (M : am_M) (st : List Value) : Option am_O := match st with
  | [] => if M.2.2.1 = 4 then some (.inr (.inl none)) else none
  | _ => none
def am_ldc (a : Nat) (z : Int) (pc : Nat) (ls : am_L) (st : List Value) (h : am_H) : Option am_O := if a = 1 then am_nx pc ls (.ref 2 :: st) h else am_nx pc ls (.int (Int32.ofInt z) :: st) h
def am_step (M : am_M) (r : am_R) (pc : Nat) (ls : am_L) (st : List Value) (h : am_H) : Option am_O := match r.1 with
  | .iconst k => am_nx (pc + 1) ls (.int (Int32.ofInt k) :: st) h
  | .bipush k => am_nx (pc + 2) ls (.int (Int8.ofInt k).toInt32 :: st) h
  | .sipush k => am_nx (pc + 3) ls (.int (Int16.ofInt k).toInt32 :: st) h
  | .lconst k => am_nx (pc + 1) ls (.long (Int64.ofNat k) :: st) h
  | .aconst_null => am_nx (pc + 1) ls (.null :: st) h
  | .ldc _ => am_ldc r.2.1 r.2.2.2.2 (pc + 2) ls st h
  | .ldc_w _ => if r.2.1 = 0 then am_nx (pc + 3) ls (.int (Int32.ofInt r.2.2.2.2) :: st) h else none
  | .ldc2_w _ => am_nx (pc + 3) ls (.long (Int64.ofInt r.2.2.2.2) :: st) h
  | .iload_n k => am_ldI (pc + 1) k ls st h
  | .iload k => am_ldI (pc + 2) k ls st h
  | .lload_n k => am_ldL (pc + 1) k ls st h
  | .lload k => am_ldL (pc + 2) k ls st h
  | .aload_n k => am_ldA (pc + 1) k ls st h
  | .aload k => am_ldA (pc + 2) k ls st h
  | .istore_n k => am_stI (pc + 1) k ls st h
  | .istore k => am_stI (pc + 2) k ls st h
  | .lstore_n k => am_stL (pc + 1) k ls st h
  | .lstore k => am_stL (pc + 2) k ls st h
  | .astore_n k => am_stA (pc + 1) k ls st h
  | .astore k => am_stA (pc + 2) k ls st h
  | .iinc i k => am_inc (pc + 3) i k ls st h
  | .iadd => am_b2 (fun x y => x + y) pc ls st h
  | .isub => am_b2 (fun x y => x - y) pc ls st h
  | .imul => am_b2 (fun x y => x * y) pc ls st h
  | .iand => am_b2 (fun x y => x &&& y) pc ls st h
  | .ior => am_b2 (fun x y => x ||| y) pc ls st h
  | .ixor => am_b2 (fun x y => x ^^^ y) pc ls st h
  | .ishl => am_b2 (fun x y => x <<< (y &&& 31)) pc ls st h
  | .ishr => am_b2 (fun x y => x >>> (y &&& 31)) pc ls st h
  | .iushr => am_b2 (fun x y => (x.toUInt32 >>> (y.toUInt32 &&& Int32.toUInt32 31)).toInt32) pc ls st h
  | .idiv => am_b2z (fun x y => x / y) pc ls st h
  | .irem => am_b2z (fun x y => x - x / y * y) pc ls st h
  | .ineg => am_u1 (fun x => -x) pc ls st h
  | .i2b => am_u1 (fun x => x.toInt8.toInt32) pc ls st h
  | .ladd => am_l2 (fun x y => x + y) pc ls st h
  | .lmul => am_l2 (fun x y => x * y) pc ls st h
  | .lcmp => am_lcm pc ls st h
  | .i2l => am_i2l pc ls st h
  | .dup => am_dup pc ls st h
  | .pop => am_pop pc ls st h
  | .dup_x1 => am_dx1 pc ls st h
  | .dup2 => am_du2 pc ls st h
  | .ifCond k off => am_if1 k pc off ls st h
  | .if_icmp k off => am_if2 k pc off ls st h
  | .if_acmp k off => am_ifa k pc off ls st h
  | .goto off => am_jp pc off ls st h
  | .tableswitch d lo hi offs => am_tsw d lo hi offs pc ls st h
  | .getfield _ => am_gf r.2.1 r.2.2.1 pc ls st h
  | .putfield _ => am_pf M r.2.1 r.2.2.1 pc ls st h
  | .getstatic _ => am_nx (pc + 3) ls (.ref 1 :: st) h
  | .iaload => am_ial pc ls st h
  | .baload => am_bal pc ls st h
  | .aaload => am_aal pc ls st h
  | .iastore => am_ias pc ls st h
  | .bastore => am_bas pc ls st h
  | .aastore => am_aas pc ls st h
  | .arraylength => am_aln pc ls st h
  | .newarray ty => am_nwa ty pc ls st h
  | .anewarray _ => am_anw r.2.1 pc ls st h
  | .new _ => am_new r.2.1 pc ls st h
  | .checkcast _ => am_cst r.2.1 pc ls st h
  | .invokevirtual _ => am_ivv M r.2.1 r.2.2.1 pc ls st h
  | .invokespecial _ => am_ivi M r.2.1 r.2.2.1 pc ls st h
  | .invokestatic _ => am_ivs M r.2.1 r.2.2.1 pc ls st h
  | .ireturn => am_rtI M st
  | .lreturn => am_rtL M st
  | .areturn => am_rtA M st
  | .return_ => am_rtV M st
  | _ => none
def am_pad (n : Nat) (l : am_L) : am_L := l ++ List.replicate (n - l.length) none
def am_fe (tab : List (Nat × am_R)) (pc : Nat) : Option am_R := match tab with
  | [] => none
  | e :: t => if e.1 = pc then some e.2 else am_fe t pc
def am_at (mi pc : Nat) : Option am_R := match am_mt[mi]? with
  | some M => am_fe M.2.2.2.2.2.2 pc
  | none => none
def am_en (mj : Nat) (as : List Value) : am_F := match am_mt[mj]? with
  | some N => (0, am_pad N.2.2.2.1 (am_ent as), [])
  | none => (0, [], [])
def am_run : Nat → Nat → am_F → am_H → Option (Option Value × am_H)
  | 0, _, _, _ => none
  | f + 1, mi, fr, h => match am_mt[mi]? with
    | none => none
    | some M => match am_fe M.2.2.2.2.2.2 fr.1 with
      | none => none
      | some r => match am_step M r fr.1 fr.2.1 fr.2.2 h with
        | none => none
        | some (.inl q) => am_run f mi q.1 q.2
        | some (.inr (.inl v)) => some (v, h)
        | some (.inr (.inr q)) => match am_run f q.1 (am_en q.1 q.2.1) h with
          | none => none
          | some w => am_run f mi (q.2.2.1, q.2.2.2.1, w.1.toList ++ q.2.2.2.2) w.2
