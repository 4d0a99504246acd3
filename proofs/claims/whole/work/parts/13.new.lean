/-! stores of references, what is new, natives, calls -/
theorem am_cas0 : am_w 1267 (.castable RJx4a65c "java/lang/Object") = true := by decide +kernel
theorem am_cas1 : am_w 1268 (.castable RX0 "java/lang/Object") = true := by decide +kernel
theorem am_cas2 : am_w 1274 (.castable RX1 "java/lang/Object") = true := by decide +kernel
theorem am_cas3 : am_w 1275 (.castable RX2 "java/lang/Object") = true := by decide +kernel
theorem am_cas4 : am_w 1272 (.castable RX3 "java/lang/Object") = true := by decide +kernel
theorem am_cas5 : am_w 1273 (.castable RX4 "java/lang/Object") = true := by decide +kernel
theorem am_cas6 : am_w 1269 (.castable RX5 "java/lang/Object") = true := by decide +kernel
theorem am_cas7 : am_w 1262 (.castable RX6 "java/lang/Object") = true := by decide +kernel
theorem am_cas8 : am_w 1271 (.castable RX7 "java/lang/Object") = true := by decide +kernel
theorem am_cas9 : am_w 1276 (.castable RX8 "java/lang/Object") = true := by decide +kernel
theorem am_cas10 : am_w 1266 (.castable RX9 "java/lang/Object") = true := by decide +kernel
theorem am_cas11 : am_w 1270 (.castable RX10 "java/lang/Object") = true := by decide +kernel
theorem am_casO {G : am_G} {s : State} (hK : am_K G s) {a : Nat} {r : vw_C} (h : vwCl[a]? = some r) : va_Nw (.castable r.1 "java/lang/Object") s := by
  have ha := am_cl12 h
  match a, h with
  | 0, h => cases Option.some.inj h; exact hK.w am_cas0 rfl #[]
  | 1, h => cases Option.some.inj h; exact hK.w am_cas1 rfl #[]
  | 2, h => cases Option.some.inj h; exact hK.w am_cas2 rfl #[]
  | 3, h => cases Option.some.inj h; exact hK.w am_cas3 rfl #[]
  | 4, h => cases Option.some.inj h; exact hK.w am_cas4 rfl #[]
  | 5, h => cases Option.some.inj h; exact hK.w am_cas5 rfl #[]
  | 6, h => cases Option.some.inj h; exact hK.w am_cas6 rfl #[]
  | 7, h => cases Option.some.inj h; exact hK.w am_cas7 rfl #[]
  | 8, h => cases Option.some.inj h; exact hK.w am_cas8 rfl #[]
  | 9, h => cases Option.some.inj h; exact hK.w am_cas9 rfl #[]
  | 10, h => cases Option.some.inj h; exact hK.w am_cas10 rfl #[]
  | 11, h => cases Option.some.inj h; exact hK.w am_cas11 rfl #[]
  | k + 12, _ => omega
theorem am_wd_oi : am_w 78 (.instanceMethod objectInit) = true := by decide +kernel
theorem am_wd_oc : am_w 79 (.code objectInit ⟨#[0xb1]⟩ 1 none) = true := by decide +kernel
theorem am_wd_gi : am_w 265 (.instanceMethod am_gcN) = true := by decide +kernel
theorem am_wd_gn : am_w 279 (.native am_gcN) = true := by decide +kernel
theorem am_wd_gd : am_w 1265 (.declares am_gcN) = true := by decide +kernel
theorem am_wd_gs : am_w 1264 (.selects "[Ljava/lang/Object;" am_gcN am_gcN) = true := by decide +kernel
theorem am_wd_an : am_w 291 (.native arraycopyName) = true := by decide +kernel
theorem am_wd_as : am_w 290 (.static arraycopyName) = true := by decide +kernel
theorem am_wd_ai : am_w 63 (.initialized "java/lang/System") = true := by decide +kernel
theorem am_wd_mi : am_w 62 (.initialized "java/lang/Math") = true := by decide +kernel
theorem am_wd_abss : am_w 325 (.static Lib.Math.abs.name) = true := by decide +kernel
theorem am_wd_absc : am_w 326 (.code Lib.Math.abs.name Lib.Math.abs.code 1 (some .int)) = true := by decide +kernel
theorem am_wd_maxs : am_w 255 (.static Lib.Math.max.name) = true := by decide +kernel
theorem am_wd_maxc : am_w 256 (.code Lib.Math.max.name Lib.Math.max.code 2 (some .int)) = true := by decide +kernel
theorem am_wd_mins : am_w 287 (.static Lib.Math.min.name) = true := by decide +kernel
theorem am_wd_minc : am_w 288 (.code Lib.Math.min.name Lib.Math.min.code 2 (some .int)) = true := by decide +kernel
theorem am_wd_ti : am_w 142 (.arrayClass .int) = true := by decide +kernel
theorem am_wd_tb : am_w 124 (.arrayClass .byte) = true := by decide +kernel
theorem am_wd_tz : am_w 979 (.arrayClass .boolean) = true := by decide +kernel
theorem am_wd_to : am_w 284 (.arrayOver (.object "java/lang/Object")) = true := by decide +kernel
theorem am_wd_th : am_w 107 (.arrayOver (.object RX6)) = true := by decide +kernel
section AMQ
variable {p : Program} {l : Launch} {e : Env} {R : Room} {s : State} {m : MethodId} {args : Array Value} {below : List Frame} {meth : Method} {c : Code} {Q : State → Prop} {G : am_G} {k0 z0 : Nat} {cc : ByteArray} {pc nL : Nat} {ls ls' : am_L} {st : List Value} {h : am_H}
theorem am_obj_inv {y a : Nat} (hy : am_obj h y = some a) : ∃ fs, h[y]? = some (.inr (a, fs)) ∧ a < 12 := by
  unfold am_obj at hy
  split at hy
  · rename_i ci fs e
    split at hy
    · rename_i hc
      cases hy
      exact ⟨fs, e, hc⟩
    · cases hy
  · cases hy
theorem am_vw {a : Nat} (ha : a < 12) : ∃ r, vwCl[a]? = some r := ⟨_, List.getElem?_eq_getElem (l := vwCl) (i := a) ha⟩
theorem am_o_aast (hx : p.tables.exec = Jvm.exec) (hb : c.code = cc) (hK : am_K G s) {x n t v a : Nat} {f : Nat → Option Nat} {i : Int32} (ht : t = 3 ∨ (t = 4 ∧ a = 7)) (hh : h[x]? = some (.inl (t, n, .inr (.inr (.inr (.inr f)))))) (hv : am_obj h v = some a) (hi : am_outb i n = false) (hd : decode cc pc = .ok (.aastore, 1)) (K : am_Kn p l e R s m args below meth c Q G k0 z0 (pc + 1) ls st (h.set x (.inl (t, n, .inr (.inr (.inr (.inr (va_up f i.toNatClampNeg (some v)))))))) ) : am_Kn p l e R s m args below meth c Q G k0 z0 pc ls (.ref v :: .int i :: .ref x :: st) h := by
  intro H locs cells slots cl hI hL
  obtain ⟨fs, hv1, ha⟩ := am_obj_inv hv
  obtain ⟨r, hr⟩ := am_vw ha
  have hm : am_cc G (.inl (t, n, .inr (.inr (.inr (.inr (va_up f i.toNatClampNeg (some v))))))) = .inl (G.2.2.2 t, n, .inr (.inr (.inr (.inr (va_up (fun j => (f j).map (am_ad G)) i.toNatClampNeg (some (am_ad G v))))))) := by
    simp only [am_cc, am_ca]
    congr 7
    funext j
    by_cases hj : j = i.toNatClampNeg
    · simp [va_up, hj]
    · simp [va_up, hj]
  rcases ht with rfl | ⟨rfl, rfl⟩
  · obtain ⟨k, rfl, hw⟩ := am_idx hI.1 hh rfl
    obtain ⟨k2, rfl, hw2⟩ := am_idx hI.1 hv1 (by simp [am_ne, ha])
    exact va_astqO hx hb hK.2.1 hI.1.1 (am_D G h) hI.2.1 k 3 k2 a hw am_tyk.2.2.2.1 (am_casO hK hr) hw2 hr (am_outn hi) hd (fun H1 locs1 hP1 hD1 hS1 => am_hz fun hz => K H1 locs1 cells slots cl (am_I.upd hI hh (y' := .inl (3, n, .inr (.inr (.inr (.inr (va_up f i.toNatClampNeg (some (k2 + 3)))))))) rfl (by rw [hm]; exact hP1) hS1 hz) hL)
  · obtain ⟨k, rfl, hw⟩ := am_idx hI.1 hh rfl
    obtain ⟨k2, rfl, hw2⟩ := am_idx hI.1 hv1 (by simp [am_ne])
    exact va_astq (r := (RX6, TX6, 2)) hx hb hK.2.1 hI.1.1 (am_D G h) hI.2.1 k 4 k2 7 hw am_tyk.2.2.2.2 hw2 rfl (am_outn hi) hd (fun H1 locs1 hP1 hD1 hS1 => am_hz fun hz => K H1 locs1 cells slots cl (am_I.upd hI hh (y' := .inl (4, n, .inr (.inr (.inr (.inr (va_up f i.toNatClampNeg (some (k2 + 3)))))))) rfl (by rw [hm]; exact hP1) hS1 hz) hL)
theorem am_ra {ty : FieldType} {cA cB : ClassId} (h1 : va_RA s cA ty) (h2 : va_RA s cB ty) : cA = cB := by
  cases ty with
  | object C =>
    obtain ⟨-, -, -, -, -, e1⟩ := h1
    obtain ⟨-, -, -, -, -, e2⟩ := h2
    exact Option.some.inj (e1.symm.trans e2)
  | _ => exact Option.some.inj (Eq.trans (Eq.symm h1) h2)
/-- room for one more cell of n slots -/
def am_Rm (R : Room) (k0 z0 : Nat) (h : am_H) (n : Nat) : Prop := h.length + 1 ≤ R.cells + k0 ∧ am_sz h + n ≤ R.slots + z0
theorem am_o_new (hx : p.tables.exec = Jvm.exec) (hb : c.code = cc) (hK : am_K G s) (hE : am_E G s) {own : String} {a i : Nat} {r : vw_C} (ho : s.vm.findClass own = some m.cls) (hr : vwCl[a]? = some r) (h1 : (Jvm.Cond.classLink own i r.1).before args s = true) (h2 : (Jvm.Cond.instantiable r.1 r.2.2).before args s = true) (h3 : (Jvm.Cond.initialized r.1).before args s = true) (hrm : am_Rm R k0 z0 h (am_dfl.getD a []).length) (hd : decode cc pc = .ok (.new i, 3)) (K : am_Kn p l e R s m args below meth c Q G k0 z0 (pc + 3) ls (.ref h.length :: st) (h ++ [.inr (a, am_dfl.getD a [])])) : am_Kn p l e R s m args below meth c Q G k0 z0 pc ls st h := by
  intro H locs cells slots cl hI hL
  have hcf := am_cf hr
  have hcl := hI.2.2.1
  have hsl := hI.2.2.2.1
  have hln := hcf.2.2.2.2
  rw [hln] at hrm
  have hid : (am_dfl.getD a []).map (am_cv G) = am_dfl.getD a [] := by
    have ha := am_cl12 hr
    match a, ha with
    | 0, _ | 1, _ | 2, _ | 3, _ | 4, _ | 5, _ | 6, _ | 7, _ | 8, _ | 9, _ | 10, _ | 11, _ => rfl
  refine va_new (D := G.2.2.1) (Ts := am_Tk) (C := r.1) (T := r.2.1) (N := r.2.2) (ci := a) (fs := (am_dfl.getD a []).map (am_cv G)) hx hb (am_tk hK args) hcf.1 (am_tyf a) hcf.2.1 ho h1 h2 h3 hK.2.1 hI.1.1 (am_D G h) hI.2.1 (fun q hq => Nat.le_trans hE.1.2.2 hq) hr (by rw [hid]; exact hcf.2.2.2.1) (by have := hrm.1; omega) (by have := hrm.2; omega) hd (fun q H1 hP1 hD1 hS1 => am_hz fun hz => ?_)
  obtain ⟨rfl, hI1⟩ := am_I.new hI (y := .inr (a, am_dfl.getD a [])) (n := r.2.2) hln hP1 hD1 hS1 hz
  exact K H1 locs (cells + 1) (slots + r.2.2) cl hI1 hL

theorem am_o_nwi (hx : p.tables.exec = Jvm.exec) (hb : c.code = cc) (hK : am_K G s) (hE : am_E G s) {n : Int32} (hn : ¬ n < 0) (hn2 : n.toNatClampNeg ≤ 100000) (hrm : am_Rm R k0 z0 h n.toNatClampNeg) (hd : decode cc pc = .ok (.newarray .int, 2)) (K : am_Kn p l e R s m args below meth c Q G k0 z0 (pc + 2) ls (.ref h.length :: st) (h ++ [.inl (0, n.toNatClampNeg, .inl (fun _ => 0))])) : am_Kn p l e R s m args below meth c Q G k0 z0 pc ls (.int n :: st) h := by
  intro H locs cells slots cl hI hL
  have hcl := hI.2.2.1
  have hsl := hI.2.2.2.1
  have hby : n.toNatClampNeg * componentBytes (FieldType.int) ≤ 536870912 := by
    have e9 : componentBytes FieldType.int = 4 := rfl
    rw [e9]
    omega
  refine va_newa (D := G.2.2.1) (atype := .int) (ty := .int) (a0 := (n.toNatClampNeg, .inl (fun _ => 0))) (N' := n.toNatClampNeg) hx hb (hK.w am_wd_ti rfl args) rfl hK.2.1 hI.1.1 (am_D G h) hI.2.1 (fun q hq => Nat.le_trans hE.1.2.2 hq) (fun cA => vp_cell_i cA n.toNatClampNeg (fun _ => 0)) hn rfl hby (by have := hrm.1; omega) (by have := hrm.2; omega) hd (fun q cA H1 hK1 hP1 hD1 hS1 => am_hz fun hz => ?_)
  have e3 : cA = G.2.2.2 0 := am_ra (hK1.2 5 (cA, .int) rfl).2 (hK.2.1.2 0 (G.2.2.2 0, .int) rfl).2
  subst e3
  obtain ⟨rfl, hI1⟩ := am_I.new hI (y := .inl (0, n.toNatClampNeg, .inl (fun _ => 0))) (n := n.toNatClampNeg) rfl hP1 hD1 hS1 hz
  exact K H1 locs (cells + 1) (slots + n.toNatClampNeg) cl hI1 hL
theorem am_o_nwb (hx : p.tables.exec = Jvm.exec) (hb : c.code = cc) (hK : am_K G s) (hE : am_E G s) {n : Int32} (hn : ¬ n < 0) (hn2 : n.toNatClampNeg ≤ 100000) (hrm : am_Rm R k0 z0 h n.toNatClampNeg) (hd : decode cc pc = .ok (.newarray .byte, 2)) (K : am_Kn p l e R s m args below meth c Q G k0 z0 (pc + 2) ls (.ref h.length :: st) (h ++ [.inl (1, n.toNatClampNeg, .inl (fun _ => 0))])) : am_Kn p l e R s m args below meth c Q G k0 z0 pc ls (.int n :: st) h := by
  intro H locs cells slots cl hI hL
  have hcl := hI.2.2.1
  have hsl := hI.2.2.2.1
  have hby : n.toNatClampNeg * componentBytes (FieldType.byte) ≤ 536870912 := by
    have e9 : componentBytes FieldType.byte = 1 := rfl
    rw [e9]
    omega
  refine va_newa (D := G.2.2.1) (atype := .byte) (ty := .byte) (a0 := (n.toNatClampNeg, .inl (fun _ => 0))) (N' := n.toNatClampNeg) hx hb (hK.w am_wd_tb rfl args) rfl hK.2.1 hI.1.1 (am_D G h) hI.2.1 (fun q hq => Nat.le_trans hE.1.2.2 hq) (fun cA => vp_cell_i cA n.toNatClampNeg (fun _ => 0)) hn rfl hby (by have := hrm.1; omega) (by have := hrm.2; omega) hd (fun q cA H1 hK1 hP1 hD1 hS1 => am_hz fun hz => ?_)
  have e3 : cA = G.2.2.2 1 := am_ra (hK1.2 5 (cA, .byte) rfl).2 (hK.2.1.2 1 (G.2.2.2 1, .byte) rfl).2
  subst e3
  obtain ⟨rfl, hI1⟩ := am_I.new hI (y := .inl (1, n.toNatClampNeg, .inl (fun _ => 0))) (n := n.toNatClampNeg) rfl hP1 hD1 hS1 hz
  exact K H1 locs (cells + 1) (slots + n.toNatClampNeg) cl hI1 hL
theorem am_o_nwz (hx : p.tables.exec = Jvm.exec) (hb : c.code = cc) (hK : am_K G s) (hE : am_E G s) {n : Int32} (hn : ¬ n < 0) (hn2 : n.toNatClampNeg ≤ 100000) (hrm : am_Rm R k0 z0 h n.toNatClampNeg) (hd : decode cc pc = .ok (.newarray .boolean, 2)) (K : am_Kn p l e R s m args below meth c Q G k0 z0 (pc + 2) ls (.ref h.length :: st) (h ++ [.inl (2, n.toNatClampNeg, .inl (fun _ => 0))])) : am_Kn p l e R s m args below meth c Q G k0 z0 pc ls (.int n :: st) h := by
  intro H locs cells slots cl hI hL
  have hcl := hI.2.2.1
  have hsl := hI.2.2.2.1
  have hby : n.toNatClampNeg * componentBytes (FieldType.boolean) ≤ 536870912 := by
    have e9 : componentBytes FieldType.boolean = 1 := rfl
    rw [e9]
    omega
  refine va_newa (D := G.2.2.1) (atype := .boolean) (ty := .boolean) (a0 := (n.toNatClampNeg, .inl (fun _ => 0))) (N' := n.toNatClampNeg) hx hb (hK.w am_wd_tz rfl args) rfl hK.2.1 hI.1.1 (am_D G h) hI.2.1 (fun q hq => Nat.le_trans hE.1.2.2 hq) (fun cA => vp_cell_i cA n.toNatClampNeg (fun _ => 0)) hn rfl hby (by have := hrm.1; omega) (by have := hrm.2; omega) hd (fun q cA H1 hK1 hP1 hD1 hS1 => am_hz fun hz => ?_)
  have e3 : cA = G.2.2.2 2 := am_ra (hK1.2 5 (cA, .boolean) rfl).2 (hK.2.1.2 2 (G.2.2.2 2, .boolean) rfl).2
  subst e3
  obtain ⟨rfl, hI1⟩ := am_I.new hI (y := .inl (2, n.toNatClampNeg, .inl (fun _ => 0))) (n := n.toNatClampNeg) rfl hP1 hD1 hS1 hz
  exact K H1 locs (cells + 1) (slots + n.toNatClampNeg) cl hI1 hL
theorem am_o_anwO (hx : p.tables.exec = Jvm.exec) (hb : c.code = cc) (hK : am_K G s) (hE : am_E G s) {own : String} {n : Int32} {i : Nat} (ho : s.vm.findClass own = some m.cls) (hc : (Jvm.Cond.classLink own i "java/lang/Object").before args s = true) (hn : ¬ n < 0) (hn2 : n.toNatClampNeg ≤ 100000) (hrm : am_Rm R k0 z0 h n.toNatClampNeg) (hd : decode cc pc = .ok (.anewarray i, 3)) (K : am_Kn p l e R s m args below meth c Q G k0 z0 (pc + 3) ls (.ref h.length :: st) (h ++ [.inl (3, n.toNatClampNeg, .inr (.inr (.inr (.inr (fun _ => none)))))])) : am_Kn p l e R s m args below meth c Q G k0 z0 pc ls (.int n :: st) h := by
  intro H locs cells slots cl hI hL
  have hcl := hI.2.2.1
  have hsl := hI.2.2.2.1
  refine va_newq (D := G.2.2.1) hx hb ho hc (va_AO.of (hK.w am_wd_to rfl args)) hK.2.1 hI.1.1 (am_D G h) hI.2.1 (fun q hq => Nat.le_trans hE.1.2.2 hq) hn rfl (by omega) (by have := hrm.1; omega) (by have := hrm.2; omega) hd (fun q cA H1 hK1 hP1 hD1 hS1 => am_hz fun hz => ?_)
  obtain ⟨-, -, -, -, -, e1⟩ := (hK1.2 5 (cA, .object "java/lang/Object") rfl).2
  obtain ⟨-, -, -, -, -, e2⟩ := (hK.2.1.2 3 (G.2.2.2 3, .object "java/lang/Object") rfl).2
  have e3 : cA = G.2.2.2 3 := Option.some.inj (e1.symm.trans e2)
  subst e3
  obtain ⟨rfl, hI1⟩ := am_I.new hI (y := .inl (3, n.toNatClampNeg, .inr (.inr (.inr (.inr (fun _ => none)))))) (n := n.toNatClampNeg) rfl hP1 hD1 hS1 hz
  exact K H1 locs (cells + 1) (slots + n.toNatClampNeg) cl hI1 hL
theorem am_o_anwS (hx : p.tables.exec = Jvm.exec) (hb : c.code = cc) (hK : am_K G s) (hE : am_E G s) {own : String} {n : Int32} {i : Nat} (ho : s.vm.findClass own = some m.cls) (hc : (Jvm.Cond.classLink own i RX6).before args s = true) (hn : ¬ n < 0) (hn2 : n.toNatClampNeg ≤ 100000) (hrm : am_Rm R k0 z0 h n.toNatClampNeg) (hd : decode cc pc = .ok (.anewarray i, 3)) (K : am_Kn p l e R s m args below meth c Q G k0 z0 (pc + 3) ls (.ref h.length :: st) (h ++ [.inl (4, n.toNatClampNeg, .inr (.inr (.inr (.inr (fun _ => none)))))])) : am_Kn p l e R s m args below meth c Q G k0 z0 pc ls (.int n :: st) h := by
  intro H locs cells slots cl hI hL
  have hcl := hI.2.2.1
  have hsl := hI.2.2.2.1
  refine va_newq (D := G.2.2.1) hx hb ho hc (va_AO.of (hK.w am_wd_th rfl args)) hK.2.1 hI.1.1 (am_D G h) hI.2.1 (fun q hq => Nat.le_trans hE.1.2.2 hq) hn rfl (by omega) (by have := hrm.1; omega) (by have := hrm.2; omega) hd (fun q cA H1 hK1 hP1 hD1 hS1 => am_hz fun hz => ?_)
  obtain ⟨-, -, -, -, -, e1⟩ := (hK1.2 5 (cA, .object RX6) rfl).2
  obtain ⟨-, -, -, -, -, e2⟩ := (hK.2.1.2 4 (G.2.2.2 4, .object RX6) rfl).2
  have e3 : cA = G.2.2.2 4 := Option.some.inj (e1.symm.trans e2)
  subst e3
  obtain ⟨rfl, hI1⟩ := am_I.new hI (y := .inl (4, n.toNatClampNeg, .inr (.inr (.inr (.inr (fun _ => none)))))) (n := n.toNatClampNeg) rfl hP1 hD1 hS1 hz
  exact K H1 locs (cells + 1) (slots + n.toNatClampNeg) cl hI1 hL
theorem am_o_cast (hx : p.tables.exec = Jvm.exec) (hb : c.code = cc) (hK : am_K G s) {own : String} {a i x : Nat} {r : vw_C} {fs : List Value} (ho : s.vm.findClass own = some m.cls) (hr : vwCl[a]? = some r) (hc : (Jvm.Cond.classLink own i r.1).before args s = true) (hh : h[x]? = some (.inr (a, fs))) (hd : decode cc pc = .ok (.checkcast i, 3)) (K : am_Kn p l e R s m args below meth c Q G k0 z0 (pc + 3) ls (.ref x :: st) h) : am_Kn p l e R s m args below meth c Q G k0 z0 pc ls (.ref x :: st) h := by
  intro H locs cells slots cl hI hL
  obtain ⟨k, rfl, hw⟩ := am_idx hI.1 hh (by simp [am_ne, am_cl12 hr])
  exact va_castS hx hb ho hc (hK.2.1.1 a r hr).2 (va_recv hK.2.1 hI.1.1 hr hw) hd (K H locs cells slots cl hI hL)
theorem am_sum_cv (G : am_G) (st : List Value) : ((st.map (am_cv G)).map fun v => v.category).sum = am_sum st := by
  unfold am_sum
  rw [List.map_map]
  congr 1
  exact List.map_congr_left (fun v _ => am_cv_cat G v)
theorem am_o_oini (hx : p.tables.exec = Jvm.exec) (hb : c.code = cc) (hK : am_K G s) {own : String} {i x : Nat} (hml : c.maxLocals = ls.length) (ho : s.vm.findClass own = some m.cls) (hlink : (Jvm.Cond.methodLink own i objectInit).before args s = true) (hf : 1 ≤ R.frames) (hlo : am_sum st + 20 ≤ R.locals) (hd : decode cc pc = .ok (.invokespecial i, 3)) (K : am_Kn p l e R s m args below meth c Q G k0 z0 (pc + 3) ls st h) : am_Kn p l e R s m args below meth c Q G k0 z0 pc ls (.ref x :: st) h := by
  intro H locs cells slots cl hI hL
  refine W.objInit hx hb ho hlink (hK.w am_wd_oi rfl args) (hK.w am_wd_oc rfl args) rfl (by rw [hml]; exact hL.1) rfl hd hf ?_ (K H locs cells slots cl hI hL)
  rw [am_sum_cv]
  show 2 * 0 + am_sum st + 12 ≤ _
  omega
theorem am_o_gcls (hx : p.tables.exec = Jvm.exec) (hb : c.code = cc) (hK : am_K G s) {own : String} {i x n : Nat} {y : (Nat → Int32) ⊕ (Nat → Int64) ⊕ (Nat → UInt32) ⊕ (Nat → UInt64) ⊕ (Nat → Option Nat)} (hml : c.maxLocals = ls.length) (ho : s.vm.findClass own = some m.cls) (hlink : (Jvm.Cond.methodLink own i am_gcN).before args s = true) (hh : h[x]? = some (.inl (3, n, y))) (hf : 1 ≤ R.frames) (hlo : am_sum st + 20 ≤ R.locals) (hd : decode cc pc = .ok (.invokevirtual i, 3)) (K : am_Kn p l e R s m args below meth c Q G k0 z0 (pc + 3) ls (.ref 2 :: st) h) : am_Kn p l e R s m args below meth c Q G k0 z0 pc ls (.ref x :: st) h := by
  intro H locs cells slots cl hI hL
  obtain ⟨k, rfl, hw⟩ := am_idx hI.1 hh rfl
  have hcell : H[G.1.1 + k]? = some (vp_cell (G.2.2.2 3) (am_ca G (n, y))) := hI.1.1 k _ hw
  have hfc : s.vm.findClass "[Ljava/lang/Object;" = some (G.2.2.2 3) := va_nmO (hK.2.1.2 3 (G.2.2.2 3, .object "java/lang/Object") rfl).2 (by decide +kernel)
  refine va_getC (C := "[Ljava/lang/Object;") hx hb (by rw [hml]; exact hL.1.symm) ho hlink (hK.w am_wd_gd rfl args) (hK.w am_wd_gs rfl args) (hK.w am_wd_gi rfl args) (hK.w am_wd_gn rfl args) hK.2.2 ⟨_, hcell, ?_, ?_⟩ hf ?_ hd (K H locs cells slots cl hI hL)
  · rcases y with f | f | f | f | f <;> rfl
  · rw [hfc]
    rcases y with f | f | f | f | f <;> rfl
  · rw [am_sum_cv]
    omega
theorem am_cpi_inv {sp dp n : Int32} {n0 n1 : Nat} (hc : am_cpi sp dp n n0 n1 = true) : ¬ sp < 0 ∧ ¬ dp < 0 ∧ ¬ n < 0 ∧ sp.toNatClampNeg + n.toNatClampNeg ≤ n0 ∧ dp.toNatClampNeg + n.toNatClampNeg ≤ n1 := by
  simp only [am_cpi, Bool.and_eq_true, decide_eq_true_eq] at hc
  exact ⟨hc.1.1.1.1, hc.1.1.1.2, hc.1.1.2, hc.1.2, hc.2⟩
theorem am_o_cpr (hx : p.tables.exec = Jvm.exec) (hb : c.code = cc) (hK : am_K G s) {own : String} {i x y n0 n1 : Nat} {f g : Nat → Option Nat} {sp dp n : Int32} (hml : c.maxLocals = ls.length) (ho : s.vm.findClass own = some m.cls) (hlink : (Jvm.Cond.methodLink own i arraycopyName).before args s = true) (hh : h[x]? = some (.inl (3, n0, .inr (.inr (.inr (.inr f)))))) (hh2 : h[y]? = some (.inl (3, n1, .inr (.inr (.inr (.inr g)))))) (hc : am_cpi sp dp n n0 n1 = true) (hr : am_cpr h f sp.toNatClampNeg n.toNatClampNeg = true) (hf : 1 ≤ R.frames) (hlo : am_sum st + 20 ≤ R.locals) (hd : decode cc pc = .ok (.invokestatic i, 3)) (K : am_Kn p l e R s m args below meth c Q G k0 z0 (pc + 3) ls st (h.set y (.inl (3, n1, .inr (.inr (.inr (.inr (va_cpy f g sp.toNatClampNeg dp.toNatClampNeg n.toNatClampNeg)))))))) : am_Kn p l e R s m args below meth c Q G k0 z0 pc ls (.int n :: .int dp :: .ref y :: .int sp :: .ref x :: st) h := by
  intro H locs cells slots cl hI hL
  obtain ⟨k, rfl, hw⟩ := am_idx hI.1 hh rfl
  obtain ⟨k2, rfl, hw2⟩ := am_idx hI.1 hh2 rfl
  obtain ⟨c1, c2, c3, c4, c5⟩ := am_cpi_inv hc
  refine va_copyM (E0 := "java/lang/Object") (E1 := "java/lang/Object") hx hb (by rw [hml]; exact hL.1.symm) ho hlink (hK.w am_wd_an rfl args) (hK.w am_wd_as rfl args) (hK.w am_wd_ai rfl args) hK.2.1 hI.1.1 (am_D G h) hI.2.1 k k2 3 3 hw hw2 rfl rfl c1 c2 c3 c4 c5 ?_ hf ?_ hd (fun H1 locs1 hP1 hD1 hS1 => am_hz fun hz => K H1 locs1 cells slots cl (am_I.upd hI hh2 (y' := .inl (3, n1, .inr (.inr (.inr (.inr (va_cpy f g sp.toNatClampNeg dp.toNatClampNeg n.toNatClampNeg)))))) rfl ?_ hS1 hz) hL)
  · intro j hj z hz
    have hq := List.all_eq_true.mp hr j (List.mem_range.mpr hj)
    cases hfj : f (sp.toNatClampNeg + j) with
    | none => rw [hfj] at hz; cases hz
    | some w =>
      rw [hfj] at hz
      have hz2 : am_ad G w = z := Option.some.inj hz
      subst hz2
      simp only [hfj] at hq
      obtain ⟨a, ha⟩ := Option.isSome_iff_exists.mp hq
      obtain ⟨fs, hv1, ha2⟩ := am_obj_inv ha
      obtain ⟨r, hr2⟩ := am_vw ha2
      obtain ⟨k3, rfl, hw3⟩ := am_idx hI.1 hv1 (by simp [am_ne, ha2])
      refine va_rAny hK.2.1 hI.1.1 hw3 hr2 (fun comp c0 q1 q2 => ?_)
      obtain ⟨c9, t9, f1, f2, f3⟩ := Cond.castable_spec (va_Nw.use (A := args) rfl (am_casO hK hr2))
      cases q2.symm.trans f1
      cases q1.symm.trans f2
      exact f3
  · rw [am_sum_cv]
    have e9 : nativeFrameWords "java/lang/System" "arraycopy" 5 = 7 := by decide
    omega
  · have e : am_cc G (.inl (3, n1, .inr (.inr (.inr (.inr (va_cpy f g sp.toNatClampNeg dp.toNatClampNeg n.toNatClampNeg)))))) = .inl (G.2.2.2 3, n1, .inr (.inr (.inr (.inr (va_cpy (fun j => (f j).map (am_ad G)) (fun j => (g j).map (am_ad G)) sp.toNatClampNeg dp.toNatClampNeg n.toNatClampNeg))))) := by
      simp only [am_cc, am_ca]
      congr 7
      funext j
      unfold va_cpy
      split <;> rfl
    rw [e]
    exact hP1
theorem am_o_cpb (hx : p.tables.exec = Jvm.exec) (hb : c.code = cc) (hK : am_K G s) {own : String} {i x y n0 n1 : Nat} {f g : Nat → Int32} {sp dp n : Int32} (hml : c.maxLocals = ls.length) (ho : s.vm.findClass own = some m.cls) (hlink : (Jvm.Cond.methodLink own i arraycopyName).before args s = true) (hh : h[x]? = some (.inl (1, n0, .inl f))) (hh2 : h[y]? = some (.inl (1, n1, .inl g))) (hc : am_cpi sp dp n n0 n1 = true) (hr : am_cpb f sp.toNatClampNeg n.toNatClampNeg = true) (hf : 1 ≤ R.frames) (hlo : am_sum st + 20 ≤ R.locals) (hd : decode cc pc = .ok (.invokestatic i, 3)) (K : am_Kn p l e R s m args below meth c Q G k0 z0 (pc + 3) ls st (h.set y (.inl (1, n1, .inl (va_cpy f g sp.toNatClampNeg dp.toNatClampNeg n.toNatClampNeg))))) : am_Kn p l e R s m args below meth c Q G k0 z0 pc ls (.int n :: .int dp :: .ref y :: .int sp :: .ref x :: st) h := by
  intro H locs cells slots cl hI hL
  obtain ⟨k, rfl, hw⟩ := am_idx hI.1 hh rfl
  obtain ⟨k2, rfl, hw2⟩ := am_idx hI.1 hh2 rfl
  obtain ⟨c1, c2, c3, c4, c5⟩ := am_cpi_inv hc
  refine va_copyi (ty := .byte) hx hb (by rw [hml]; exact hL.1.symm) ho hlink (hK.w am_wd_an rfl args) (hK.w am_wd_as rfl args) (hK.w am_wd_ai rfl args) hK.2.1 hI.1.1 (am_D G h) hI.2.1 k k2 1 1 hw hw2 rfl rfl rfl c1 c2 c3 c4 c5 (fun j hj => List.all_eq_true.mp hr j (List.mem_range.mpr hj)) hf ?_ hd (fun H1 locs1 hP1 hD1 hS1 => am_hz fun hz => K H1 locs1 cells slots cl (am_I.upd hI hh2 (y' := .inl (1, n1, .inl (va_cpy f g sp.toNatClampNeg dp.toNatClampNeg n.toNatClampNeg))) rfl hP1 hS1 hz) hL)
  rw [am_sum_cv]
  have e9 : nativeFrameWords "java/lang/System" "arraycopy" 5 = 7 := by decide
  omega
theorem am_o_abs (hx : p.tables.exec = Jvm.exec) (hb : c.code = cc) (hK : am_K G s) {own : String} {i : Nat} {x : Int32} (hml : c.maxLocals = ls.length) (ho : s.vm.findClass own = some m.cls) (hlink : (Jvm.Cond.methodLink own i Lib.Math.abs.name).before args s = true) (hf : 1 ≤ R.frames) (hlo : am_sum st + 20 ≤ R.locals) (hrm : h.length ≤ R.cells + k0 ∧ am_sz h ≤ R.slots + z0) (hd : decode cc pc = .ok (.invokestatic i, 3)) (K : am_Kn p l e R s m args below meth c Q G k0 z0 (pc + 3) ls (.int (if 0 ≤ x then x else 0 - x) :: st) h) : am_Kn p l e R s m args below meth c Q G k0 z0 pc ls (.int x :: st) h := by
  intro H locs cells slots cl hI hL
  have hcl := hI.2.2.1
  have hsl := hI.2.2.2.1
  exact va_mabs hx hb (by rw [hml]; exact hL.1.symm) ho hlink (hK.w am_wd_abss rfl args) (hK.w am_wd_mi rfl args) (hK.w am_wd_absc rfl args) hf (by rw [am_sum_cv]; omega) (by omega) (by omega) hd (K H locs cells slots cl hI hL)
theorem am_o_max (hx : p.tables.exec = Jvm.exec) (hb : c.code = cc) (hK : am_K G s) {own : String} {i : Nat} {x y : Int32} (hml : c.maxLocals = ls.length) (ho : s.vm.findClass own = some m.cls) (hlink : (Jvm.Cond.methodLink own i Lib.Math.max.name).before args s = true) (hf : 1 ≤ R.frames) (hlo : am_sum st + 20 ≤ R.locals) (hrm : h.length ≤ R.cells + k0 ∧ am_sz h ≤ R.slots + z0) (hd : decode cc pc = .ok (.invokestatic i, 3)) (K : am_Kn p l e R s m args below meth c Q G k0 z0 (pc + 3) ls (.int (if x < y then y else x) :: st) h) : am_Kn p l e R s m args below meth c Q G k0 z0 pc ls (.int y :: .int x :: st) h := by
  intro H locs cells slots cl hI hL
  have hcl := hI.2.2.1
  have hsl := hI.2.2.2.1
  exact va_mmax hx hb (by rw [hml]; exact hL.1.symm) ho hlink (hK.w am_wd_maxs rfl args) (hK.w am_wd_mi rfl args) (hK.w am_wd_maxc rfl args) hf (by rw [am_sum_cv]; omega) (by omega) (by omega) hd (K H locs cells slots cl hI hL)
theorem am_o_min (hx : p.tables.exec = Jvm.exec) (hb : c.code = cc) (hK : am_K G s) {own : String} {i : Nat} {x y : Int32} (hml : c.maxLocals = ls.length) (ho : s.vm.findClass own = some m.cls) (hlink : (Jvm.Cond.methodLink own i Lib.Math.min.name).before args s = true) (hf : 1 ≤ R.frames) (hlo : am_sum st + 20 ≤ R.locals) (hrm : h.length ≤ R.cells + k0 ∧ am_sz h ≤ R.slots + z0) (hd : decode cc pc = .ok (.invokestatic i, 3)) (K : am_Kn p l e R s m args below meth c Q G k0 z0 (pc + 3) ls (.int (if y < x then y else x) :: st) h) : am_Kn p l e R s m args below meth c Q G k0 z0 pc ls (.int y :: .int x :: st) h := by
  intro H locs cells slots cl hI hL
  have hcl := hI.2.2.1
  have hsl := hI.2.2.2.1
  exact va_mmin hx hb (by rw [hml]; exact hL.1.symm) ho hlink (hK.w am_wd_mins rfl args) (hK.w am_wd_mi rfl args) (hK.w am_wd_minc rfl args) hf (by rw [am_sum_cv]; omega) (by omega) (by omega) hd (K H locs cells slots cl hI hL)
end AMQ
