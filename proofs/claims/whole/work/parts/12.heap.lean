/-! the classes: their words, types, first values -/
def am_Tk : List Jvm.Cond := lw_tbl.filter am_kw
theorem am_tk {G : am_G} {s : State} (hK : am_K G s) (args : Array Value) : ∀ w ∈ am_Tk, w.before args s = true := fun w hw => hK.1 w (List.mem_filter.mp hw).1 (List.mem_filter.mp hw).2 args
theorem am_kw_lay (C : String) (T : u_T) (k : Nat) : am_kw (u_lay C T k) = true := by
  unfold u_lay
  split <;> rfl
theorem am_tin {C : String} {T : u_T} {N : Nat} (ps : List Nat) (h : u_ws C T N = ps.filterMap (fun i => lw_tbl[i]?)) : ∀ w ∈ u_ws C T N, w ∈ am_Tk := by
  intro w hw
  have h1 : am_kw w = true := by
    obtain ⟨k, -, rfl⟩ := List.mem_map.mp hw
    exact am_kw_lay C T k
  rw [h] at hw
  obtain ⟨i, -, hi⟩ := List.mem_filterMap.mp hw
  exact List.mem_filter.mpr ⟨List.mem_of_getElem? hi, h1⟩
def am_CF (a : Nat) (r : vw_C) : Prop := (∀ w ∈ u_ws r.1 r.2.1 r.2.2, w ∈ am_Tk) ∧ (∀ k, k < r.2.2 → parseFieldDescriptor (r.2.1 k).2.2.1 = some (am_tyf a k)) ∧ (∀ x, x < r.2.2 → ∀ y, y < r.2.2 → x ≠ y → (r.2.1 x).2.1 ≠ (r.2.1 y).2.1) ∧ (∀ j, j < r.2.2 → defaultValue (am_tyf a j) = vp_V (am_dfl.getD a []) j) ∧ (am_dfl.getD a []).length = r.2.2
theorem am_cfi0 : u_ws RJx4a65c TJx4a65c 3 = [103, 99, 101].filterMap (fun i => lw_tbl[i]?) := by decide +kernel
theorem am_cfd0 : ∀ j, j < 3 → defaultValue (am_tyf 0 j) = vp_V (am_dfl.getD 0 []) j := by decide +kernel
theorem am_cf0 : am_CF 0 (RJx4a65c, TJx4a65c, 3) := ⟨am_tin _ am_cfi0, tyJx4a65c_ok, nmJx4a65c, am_cfd0, rfl⟩
theorem am_cfi1 : u_ws RX0 TX0 3 = [135, 137, 139].filterMap (fun i => lw_tbl[i]?) := by decide +kernel
theorem am_cfd1 : ∀ j, j < 3 → defaultValue (am_tyf 1 j) = vp_V (am_dfl.getD 1 []) j := by decide +kernel
theorem am_cf1 : am_CF 1 (RX0, TX0, 3) := ⟨am_tin _ am_cfi1, tyX0_ok, nmX0, am_cfd1, rfl⟩
theorem am_cfi2 : u_ws RX1 TX1 2 = [622, 624].filterMap (fun i => lw_tbl[i]?) := by decide +kernel
theorem am_cfd2 : ∀ j, j < 2 → defaultValue (am_tyf 2 j) = vp_V (am_dfl.getD 2 []) j := by decide +kernel
theorem am_cf2 : am_CF 2 (RX1, TX1, 2) := ⟨am_tin _ am_cfi2, tyX1_ok, nmX1, am_cfd2, rfl⟩
theorem am_cfi3 : u_ws RX2 TX2 6 = [681, 683, 685, 687, 689, 691].filterMap (fun i => lw_tbl[i]?) := by decide +kernel
theorem am_cfd3 : ∀ j, j < 6 → defaultValue (am_tyf 3 j) = vp_V (am_dfl.getD 3 []) j := by decide +kernel
theorem am_cf3 : am_CF 3 (RX2, TX2, 6) := ⟨am_tin _ am_cfi3, tyX2_ok, nmX2, am_cfd3, rfl⟩
theorem am_cfi4 : u_ws RX3 TX3 4 = [366, 368, 370, 372].filterMap (fun i => lw_tbl[i]?) := by decide +kernel
theorem am_cfd4 : ∀ j, j < 4 → defaultValue (am_tyf 4 j) = vp_V (am_dfl.getD 4 []) j := by decide +kernel
theorem am_cf4 : am_CF 4 (RX3, TX3, 4) := ⟨am_tin _ am_cfi4, tyX3_ok, nmX3, am_cfd4, rfl⟩
theorem am_cfi5 : u_ws RX4 TX4 9 = [532, 534, 536, 538, 540, 542, 544, 546, 548].filterMap (fun i => lw_tbl[i]?) := by decide +kernel
theorem am_cfd5 : ∀ j, j < 9 → defaultValue (am_tyf 5 j) = vp_V (am_dfl.getD 5 []) j := by decide +kernel
theorem am_cf5 : am_CF 5 (RX4, TX4, 9) := ⟨am_tin _ am_cfi5, tyX4_ok, nmX4, am_cfd5, rfl⟩
theorem am_cfi6 : u_ws RX5 TX5 4 = [153, 155, 157, 159].filterMap (fun i => lw_tbl[i]?) := by decide +kernel
theorem am_cfd6 : ∀ j, j < 4 → defaultValue (am_tyf 6 j) = vp_V (am_dfl.getD 6 []) j := by decide +kernel
theorem am_cf6 : am_CF 6 (RX5, TX5, 4) := ⟨am_tin _ am_cfi6, tyX5_ok, nmX5, am_cfd6, rfl⟩
theorem am_cfi7 : u_ws RX6 TX6 2 = [119, 121].filterMap (fun i => lw_tbl[i]?) := by decide +kernel
theorem am_cfd7 : ∀ j, j < 2 → defaultValue (am_tyf 7 j) = vp_V (am_dfl.getD 7 []) j := by decide +kernel
theorem am_cf7 : am_CF 7 (RX6, TX6, 2) := ⟨am_tin _ am_cfi7, tyX6_ok, nmX6, am_cfd7, rfl⟩
theorem am_cfi8 : u_ws RX7 TX7 3 = [228, 230, 232].filterMap (fun i => lw_tbl[i]?) := by decide +kernel
theorem am_cfd8 : ∀ j, j < 3 → defaultValue (am_tyf 8 j) = vp_V (am_dfl.getD 8 []) j := by decide +kernel
theorem am_cf8 : am_CF 8 (RX7, TX7, 3) := ⟨am_tin _ am_cfi8, tyX7_ok, nmX7, am_cfd8, rfl⟩
theorem am_cfi9 : u_ws RX8 TX8 5 = [741, 743, 745, 747, 749].filterMap (fun i => lw_tbl[i]?) := by decide +kernel
theorem am_cfd9 : ∀ j, j < 5 → defaultValue (am_tyf 9 j) = vp_V (am_dfl.getD 9 []) j := by decide +kernel
theorem am_cf9 : am_CF 9 (RX8, TX8, 5) := ⟨am_tin _ am_cfi9, tyX8_ok, nmX8, am_cfd9, rfl⟩
theorem am_cfi10 : u_ws RX9 TX9 14 = [179, 181, 183, 185, 187, 189, 191, 193, 195, 197, 199, 201, 203, 205].filterMap (fun i => lw_tbl[i]?) := by decide +kernel
theorem am_cfd10 : ∀ j, j < 14 → defaultValue (am_tyf 10 j) = vp_V (am_dfl.getD 10 []) j := by decide +kernel
theorem am_cf10 : am_CF 10 (RX9, TX9, 14) := ⟨am_tin _ am_cfi10, tyX9_ok, nmX9, am_cfd10, rfl⟩
theorem am_cfi11 : u_ws RX10 TX10 47 = [884, 886, 888, 890, 892, 894, 896, 898, 900, 902, 904, 906, 908, 910, 912, 914, 916, 918, 920, 922, 924, 926, 928, 930, 932, 934, 936, 938, 940, 942, 944, 946, 948, 950, 952, 954, 956, 958, 960, 962, 964, 966, 968, 970, 972, 974, 976].filterMap (fun i => lw_tbl[i]?) := by decide +kernel
theorem am_cfd11 : ∀ j, j < 47 → defaultValue (am_tyf 11 j) = vp_V (am_dfl.getD 11 []) j := by decide +kernel
theorem am_cf11 : am_CF 11 (RX10, TX10, 47) := ⟨am_tin _ am_cfi11, tyX10_ok, nmX10, am_cfd11, rfl⟩
theorem am_cl12 {a : Nat} {r : vw_C} (h : vwCl[a]? = some r) : a < 12 := (List.getElem?_eq_some_iff.mp h).1
theorem am_cf {a : Nat} {r : vw_C} (h : vwCl[a]? = some r) : am_CF a r := by
  have ha := am_cl12 h
  match a, h with
  | 0, h => exact (Option.some.inj h) ▸ am_cf0
  | 1, h => exact (Option.some.inj h) ▸ am_cf1
  | 2, h => exact (Option.some.inj h) ▸ am_cf2
  | 3, h => exact (Option.some.inj h) ▸ am_cf3
  | 4, h => exact (Option.some.inj h) ▸ am_cf4
  | 5, h => exact (Option.some.inj h) ▸ am_cf5
  | 6, h => exact (Option.some.inj h) ▸ am_cf6
  | 7, h => exact (Option.some.inj h) ▸ am_cf7
  | 8, h => exact (Option.some.inj h) ▸ am_cf8
  | 9, h => exact (Option.some.inj h) ▸ am_cf9
  | 10, h => exact (Option.some.inj h) ▸ am_cf10
  | 11, h => exact (Option.some.inj h) ▸ am_cf11
  | k + 12, _ => omega
def am_ne (x : am_C) : Bool := match x with
  | .inl y => decide (y.1 < 5)
  | .inr y => decide (y.1 < 12)
theorem am_idx {G : am_G} {h : am_H} {H : Heap} {x : Nat} {y : am_C} (hP : am_P G h H) (hx : h[x]? = some y) (hy : am_ne y = true) : ∃ k, x = k + 3 ∧ (am_ws G h)[k]? = some (G.1.1 + k, am_cc G y) := by
  have h3 := hP.2.1
  have key : x < 3 → (am_ext G)[x]? = some y := fun hl => by rw [← h3, List.getElem?_take_of_lt hl, hx]
  match x, hx, key with
  | 0, _, key => have e := key (by omega); simp [am_ext] at e; subst e; simp [am_ne] at hy
  | 1, _, key => have e := key (by omega); simp [am_ext] at e; subst e; simp [am_ne] at hy
  | 2, _, key => have e := key (by omega); simp [am_ext] at e; subst e; simp [am_ne] at hy
  | k + 3, hx, _ => exact ⟨k, rfl, am_ws_get hx⟩
theorem am_hz {p : Program} {l : Launch} {e : Env} {R : Room} {s : State} {m : MethodId} {args : Array Value} {below : List Frame} {meth : Method} {c : Code} {H : Heap} {locs : List Loc} {cells slots : Nat} {Q : State → Prop} {g : JFrame} (k : H.size ≤ s.heap.size + cells → W p l e R s m args below meth c H locs cells slots Q g) : W p l e R s m args below meth c H locs cells slots Q g :=
  fun T hT X => k (by rw [← hT]; exact X.heapSize) T hT X
theorem am_I.upd {G : am_G} {s : State} {h : am_H} {H H1 : Heap} {locs locs1 : List Loc} {cells slots k0 z0 k : Nat} {y y' : am_C} (hI : am_I G s h H locs cells slots k0 z0) (hk : h[k + 3]? = some y) (hs : am_sl y' = am_sl y) (hP1 : va_P G.2.2.1 vwCl ((am_ws G h).set k (G.1.1 + k, am_cc G y')) H1) (hS1 : va_S (am_A G) s.heap H1 locs1) (hz : H1.size ≤ s.heap.size + cells) : am_I G s (h.set (k + 3) y') H1 locs1 cells slots k0 z0 := by
  obtain ⟨⟨-, h2, -⟩, -, h4, h5, h6⟩ := hI
  rw [am_ws_set] at hP1
  have hl : k + 3 < h.length := (List.getElem?_eq_some_iff.mp hk).1
  refine ⟨⟨hP1, ?_, ?_⟩, hS1, by rw [List.length_set]; exact h4, by rw [am_sz_set hk hs]; exact h5, h6⟩
  · rw [← h2, List.take_set_of_le (by omega)]
  · have hlast : (h.set (k + 3) y')[(h.length - 4) + 3]? = some ((h.set (k + 3) y')[(h.length - 4) + 3]'(by rw [List.length_set]; omega)) := List.getElem?_eq_getElem _
    have h7 := (hP1 _ _ (am_ws_get hlast)).lt
    rw [List.length_set]
    have h8 : G.1.1 + (h.length - 4) < H1.size := h7
    omega
theorem am_I.new {G : am_G} {s : State} {h : am_H} {H H1 : Heap} {locs : List Loc} {cells slots k0 z0 q n : Nat} {y : am_C} (hI : am_I G s h H locs cells slots k0 z0) (hn : am_sl y = n) (hP1 : va_P G.2.2.1 vwCl (am_ws G h ++ [(q, am_cc G y)]) H1) (hD1 : va_D (am_A G) (am_ws G h ++ [(q, am_cc G y)])) (hS1 : va_S (am_A G) s.heap H1 locs) (hz : H1.size ≤ s.heap.size + (cells + 1)) : q = am_ad G h.length ∧ am_I G s (h ++ [y]) H1 locs (cells + 1) (slots + n) k0 z0 := by
  obtain ⟨⟨-, h2, h3⟩, hS, h4, h5, h6⟩ := hI
  have hl3 : 3 ≤ h.length := by
    have := congrArg List.length h2
    rw [List.length_take] at this
    have e : (am_ext G).length = 3 := rfl
    omega
  have hq : (am_ws G h ++ [(q, am_cc G y)])[h.length - 3]? = some (q, am_cc G y) := by
    rw [List.getElem?_append_right (by rw [am_ws_len]; exact Nat.le_refl _), am_ws_len]
    simp
  have h7 : q < H1.size := (hP1 _ _ hq).lt
  have h8 : G.1.1 ≤ q := hD1.2 _ _ hq
  have h9 : q = G.1.1 + (h.length - 3) := by
    rcases Nat.lt_or_ge (q - G.1.1) (h.length - 3) with z | z
    · exfalso
      have hz2 : (q - G.1.1) + 3 < h.length := by omega
      have hw := am_ws_get (G := G) (List.getElem?_eq_getElem hz2)
      have e1 : (am_ws G h ++ [(q, am_cc G y)])[q - G.1.1]? = some (G.1.1 + (q - G.1.1), am_cc G h[q - G.1.1 + 3]) := by
        rw [List.getElem?_append_left (by rw [am_ws_len]; omega), hw]
      have := hD1.1 _ _ _ _ e1 hq (by show G.1.1 + (q - G.1.1) = q; omega)
      omega
    · omega
  have had : am_ad G h.length = G.1.1 + (h.length - 3) := by
    obtain ⟨j, hj⟩ : ∃ j, h.length = j + 3 := ⟨h.length - 3, by omega⟩
    rw [hj]
    simp [am_ad]
  refine ⟨by rw [had, h9], ⟨?_, ?_, ?_⟩, hS1, by rw [List.length_append]; simp; omega, by rw [am_sz_push, hn]; omega, h6⟩
  · rw [am_ws_push G hl3, ← h9]
    exact hP1
  · rw [List.take_append_of_le_length hl3]
    exact h2
  · rw [List.length_append]
    simp
    omega
section AMP
variable {p : Program} {l : Launch} {e : Env} {R : Room} {s : State} {m : MethodId} {args : Array Value} {below : List Frame} {meth : Method} {c : Code} {Q : State → Prop} {G : am_G} {k0 z0 : Nat} {cc : ByteArray} {pc : Nat} {ls ls' : am_L} {st : List Value} {h : am_H}
theorem am_o_getf (hx : p.tables.exec = Jvm.exec) (hb : c.code = cc) (hK : am_K G s) {own ref : String} {a b x i : Nat} {r : vw_C} {fs : List Value} {v : Value} (ho : s.vm.findClass own = some m.cls) (hr : vwCl[a]? = some r) (hbn : b < r.2.2) (hlink : (Jvm.Cond.fieldLink own i ref (r.2.1 b).2.1 (r.2.1 b).2.2.1).before args s = true) (hsame : ∀ z, s.fieldFound? (r.2.1 b).1 (r.2.1 b).2.1 (r.2.1 b).2.2.1 = some z → s.fieldFound? ref (r.2.1 b).2.1 (r.2.1 b).2.2.1 = some z) (hh : h[x]? = some (.inr (a, fs))) (hv : fs[b]? = some v) (hd : decode cc pc = .ok (.getfield i, 3)) (K : am_Kn p l e R s m args below meth c Q G k0 z0 (pc + 3) ls (v :: st) h) : am_Kn p l e R s m args below meth c Q G k0 z0 pc ls (.ref x :: st) h := by
  intro H locs cells slots cl hI hL
  obtain ⟨k, rfl, hw⟩ := am_idx hI.1 hh (by simp [am_ne, am_cl12 hr])
  exact va_get (D := G.2.2.1) (Ts := am_Tk) (C := r.1) (T := r.2.1) (N := r.2.2) (ci := a) hx hb (am_tk hK args) (am_cf hr).1 ho hK.2.1 hI.1.1 k hw hr b hbn hlink hsame (by rw [List.getElem?_map, hv]; rfl) hd (K H locs cells slots cl hI hL)
theorem am_o_getfN (hx : p.tables.exec = Jvm.exec) (hb : c.code = cc) (hK : am_K G s) {own ref host : String} {a b x i : Nat} {r : vw_C} {fs : List Value} {v : Value} (ho : s.vm.findClass own = some m.cls) (hr : vwCl[a]? = some r) (hbn : b < r.2.2) (hlink : (Jvm.Cond.fieldLinkNest own i ref (r.2.1 b).2.1 (r.2.1 b).2.2.1 host).before args s = true) (hsame : ∀ z, s.fieldFound? (r.2.1 b).1 (r.2.1 b).2.1 (r.2.1 b).2.2.1 = some z → s.fieldFound? ref (r.2.1 b).2.1 (r.2.1 b).2.2.1 = some z) (hh : h[x]? = some (.inr (a, fs))) (hv : fs[b]? = some v) (hd : decode cc pc = .ok (.getfield i, 3)) (K : am_Kn p l e R s m args below meth c Q G k0 z0 (pc + 3) ls (v :: st) h) : am_Kn p l e R s m args below meth c Q G k0 z0 pc ls (.ref x :: st) h := by
  intro H locs cells slots cl hI hL
  obtain ⟨k, rfl, hw⟩ := am_idx hI.1 hh (by simp [am_ne, am_cl12 hr])
  exact va_getN (D := G.2.2.1) (Ts := am_Tk) (C := r.1) (T := r.2.1) (N := r.2.2) (ci := a) hx hb (am_tk hK args) (am_cf hr).1 ho hK.2.1 hI.1.1 k hw hr b hbn hlink hsame (by rw [List.getElem?_map, hv]; rfl) hd (K H locs cells slots cl hI hL)
theorem am_okf_n {ty : FieldType} {v : Value} (hv : am_okf ty v = true) : narrow ty (am_cv G v) = am_cv G v ∧ fits ty (am_cv G v) = true := by
  unfold am_okf at hv
  split at hv
  · exact ⟨rfl, rfl⟩
  · rcases of_decide_eq_true hv with rfl | rfl
    · exact ⟨(show narrow .boolean (.int 0) = .int 0 by decide +kernel), (show fits .boolean (.int 0) = true by decide +kernel)⟩
    · exact ⟨(show narrow .boolean (.int 1) = .int 1 by decide +kernel), (show fits .boolean (.int 1) = true by decide +kernel)⟩
  · exact ⟨rfl, rfl⟩
  · exact ⟨rfl, rfl⟩
  · cases hv
theorem am_o_putf (hx : p.tables.exec = Jvm.exec) (hb : c.code = cc) (hK : am_K G s) {own ref : String} {a b x i : Nat} {r : vw_C} {fs : List Value} {v : Value} (ho : s.vm.findClass own = some m.cls) (hr : vwCl[a]? = some r) (hbn : b < r.2.2) (hlink : (Jvm.Cond.fieldLink own i ref (r.2.1 b).2.1 (r.2.1 b).2.2.1).before args s = true) (hsame : ∀ z, s.fieldFound? (r.2.1 b).1 (r.2.1 b).2.1 (r.2.1 b).2.2.1 = some z → s.fieldFound? ref (r.2.1 b).2.1 (r.2.1 b).2.2.1 = some z) (hfin : (r.2.1 b).2.2.2 = false) (hh : h[x]? = some (.inr (a, fs))) (hbl : b < fs.length) (hv : am_okf (am_tyf a b) v = true) (hd : decode cc pc = .ok (.putfield i, 3)) (K : am_Kn p l e R s m args below meth c Q G k0 z0 (pc + 3) ls st (h.set x (.inr (a, fs.set b v)))) : am_Kn p l e R s m args below meth c Q G k0 z0 pc ls (v :: .ref x :: st) h := by
  intro H locs cells slots cl hI hL
  obtain ⟨k, rfl, hw⟩ := am_idx hI.1 hh (by simp [am_ne, am_cl12 hr])
  have hcf := am_cf hr
  have hnf := am_okf_n (G := G) hv
  refine va_put (D := G.2.2.1) (Ts := am_Tk) (C := r.1) (T := r.2.1) (N := r.2.2) (ci := a) (ty := am_tyf a b) hx hb (am_tk hK args) hcf.1 (am_tyf a) hcf.2.1 hcf.2.2.1 ho hK.2.1 hI.1.1 (am_D G h) hI.2.1 k hw hr b hbn hlink hsame hfin (hcf.2.1 b hbn) hnf.1 hnf.2 (by rw [List.length_map]; exact hbl) hd (fun H1 locs1 hP1 hD1 hS1 => am_hz fun hz => ?_)
  refine K H1 locs1 cells slots cl (am_I.upd hI hh (y' := .inr (a, fs.set b v)) (by simp [am_sl]) ?_ hS1 hz) hL
  have e : am_cc G (.inr (a, fs.set b v)) = .inr (a, (fs.map (am_cv G)).set b (am_cv G v)) := by simp [am_cc, List.map_set]
  rw [e]
  exact hP1
theorem am_o_putfN (hx : p.tables.exec = Jvm.exec) (hb : c.code = cc) (hK : am_K G s) {own ref host : String} {a b x i : Nat} {r : vw_C} {fs : List Value} {v : Value} (ho : s.vm.findClass own = some m.cls) (hr : vwCl[a]? = some r) (hbn : b < r.2.2) (hlink : (Jvm.Cond.fieldLinkNest own i ref (r.2.1 b).2.1 (r.2.1 b).2.2.1 host).before args s = true) (hsame : ∀ z, s.fieldFound? (r.2.1 b).1 (r.2.1 b).2.1 (r.2.1 b).2.2.1 = some z → s.fieldFound? ref (r.2.1 b).2.1 (r.2.1 b).2.2.1 = some z) (hfin : (r.2.1 b).2.2.2 = false) (hh : h[x]? = some (.inr (a, fs))) (hbl : b < fs.length) (hv : am_okf (am_tyf a b) v = true) (hd : decode cc pc = .ok (.putfield i, 3)) (K : am_Kn p l e R s m args below meth c Q G k0 z0 (pc + 3) ls st (h.set x (.inr (a, fs.set b v)))) : am_Kn p l e R s m args below meth c Q G k0 z0 pc ls (v :: .ref x :: st) h := by
  intro H locs cells slots cl hI hL
  obtain ⟨k, rfl, hw⟩ := am_idx hI.1 hh (by simp [am_ne, am_cl12 hr])
  have hcf := am_cf hr
  have hnf := am_okf_n (G := G) hv
  refine va_putN (D := G.2.2.1) (Ts := am_Tk) (C := r.1) (T := r.2.1) (N := r.2.2) (ci := a) (ty := am_tyf a b) hx hb (am_tk hK args) hcf.1 (am_tyf a) hcf.2.1 hcf.2.2.1 ho hK.2.1 hI.1.1 (am_D G h) hI.2.1 k hw hr b hbn hlink hsame hfin (hcf.2.1 b hbn) hnf.1 hnf.2 (by rw [List.length_map]; exact hbl) hd (fun H1 locs1 hP1 hD1 hS1 => am_hz fun hz => ?_)
  refine K H1 locs1 cells slots cl (am_I.upd hI hh (y' := .inr (a, fs.set b v)) (by simp [am_sl]) ?_ hS1 hz) hL
  have e : am_cc G (.inr (a, fs.set b v)) = .inr (a, (fs.map (am_cv G)).set b (am_cv G v)) := by simp [am_cc, List.map_set]
  rw [e]
  exact hP1
theorem am_o_putfF (hx : p.tables.exec = Jvm.exec) (hb : c.code = cc) (hK : am_K G s) {own ref : String} {a b x i : Nat} {r : vw_C} {fs : List Value} {v : Value} (ho : s.vm.findClass own = some m.cls) (hr : vwCl[a]? = some r) (hbn : b < r.2.2) (hlink : (Jvm.Cond.fieldLink own i ref (r.2.1 b).2.1 (r.2.1 b).2.2.1).before args s = true) (hsame : ∀ z, s.fieldFound? (r.2.1 b).1 (r.2.1 b).2.1 (r.2.1 b).2.2.1 = some z → s.fieldFound? ref (r.2.1 b).2.1 (r.2.1 b).2.2.1 = some z) (hfin : (r.2.1 b).2.2.2 = true) (hini : meth.name = "<init>") (hdecl : (r.2.1 b).1 = own) (hh : h[x]? = some (.inr (a, fs))) (hbl : b < fs.length) (hv : am_okf (am_tyf a b) v = true) (hd : decode cc pc = .ok (.putfield i, 3)) (K : am_Kn p l e R s m args below meth c Q G k0 z0 (pc + 3) ls st (h.set x (.inr (a, fs.set b v)))) : am_Kn p l e R s m args below meth c Q G k0 z0 pc ls (v :: .ref x :: st) h := by
  intro H locs cells slots cl hI hL
  obtain ⟨k, rfl, hw⟩ := am_idx hI.1 hh (by simp [am_ne, am_cl12 hr])
  have hcf := am_cf hr
  have hnf := am_okf_n (G := G) hv
  refine va_putF (D := G.2.2.1) (Ts := am_Tk) (C := r.1) (T := r.2.1) (N := r.2.2) (ci := a) (ty := am_tyf a b) hx hb (am_tk hK args) hcf.1 (am_tyf a) hcf.2.1 hcf.2.2.1 ho hK.2.1 hI.1.1 (am_D G h) hI.2.1 k hw hr b hbn hlink hsame hfin hini hdecl (hcf.2.1 b hbn) hnf.1 hnf.2 (by rw [List.length_map]; exact hbl) hd (fun H1 locs1 hP1 hD1 hS1 => am_hz fun hz => ?_)
  refine K H1 locs1 cells slots cl (am_I.upd hI hh (y' := .inr (a, fs.set b v)) (by simp [am_sl]) ?_ hS1 hz) hL
  have e : am_cc G (.inr (a, fs.set b v)) = .inr (a, (fs.map (am_cv G)).set b (am_cv G v)) := by simp [am_cc, List.map_set]
  rw [e]
  exact hP1
theorem am_o_gets (hx : p.tables.exec = Jvm.exec) (hb : c.code = cc) (hE : am_E G s) {own : String} {i : Nat} (ho : s.vm.findClass own = some m.cls) (hlink : (Jvm.Cond.fieldLink own i RJx4a65c "DEFAULTCAPACITY_EMPTY_ELEMENTDATA" "[Ljava/lang/Object;").before args s = true) (hd : decode cc pc = .ok (.getstatic i, 3)) (K : am_Kn p l e R s m args below meth c Q G k0 z0 (pc + 3) ls (.ref 1 :: st) h) : am_Kn p l e R s m args below meth c Q G k0 z0 pc ls st h :=
  fun H locs cells slots cl hI hL => va_gets hx hb hE.2.2.1 hI.2.1 ho hlink (fun _ z => z) hd (K H locs cells slots cl hI hL)
theorem am_outn {i : Int32} {n : Nat} (h : am_outb i n = false) : vp_in i n := by
  unfold am_outb at h
  intro z
  rcases z with z | z
  · simp [z] at h
  · simp [z] at h
theorem am_tyk {G : am_G} : (am_tys G)[0]? = some (G.2.2.2 0, .int) ∧ (am_tys G)[1]? = some (G.2.2.2 1, .byte) ∧ (am_tys G)[2]? = some (G.2.2.2 2, .boolean) ∧ (am_tys G)[3]? = some (G.2.2.2 3, .object "java/lang/Object") ∧ (am_tys G)[4]? = some (G.2.2.2 4, .object RX6) := ⟨rfl, rfl, rfl, rfl, rfl⟩
theorem am_o_iald (hx : p.tables.exec = Jvm.exec) (hb : c.code = cc) (hK : am_K G s) {x n : Nat} {f : Nat → Int32} {i : Int32} (hh : h[x]? = some (.inl (0, n, .inl f))) (hi : am_outb i n = false) (hd : decode cc pc = .ok (.iaload, 1)) (K : am_Kn p l e R s m args below meth c Q G k0 z0 (pc + 1) ls (.int (f i.toNatClampNeg) :: st) h) : am_Kn p l e R s m args below meth c Q G k0 z0 pc ls (.int i :: .ref x :: st) h := by
  intro H locs cells slots cl hI hL
  obtain ⟨k, rfl, hw⟩ := am_idx hI.1 hh rfl
  exact va_iald hx hb hK.2.1 hI.1.1 k 0 hw am_tyk.1 (am_outn hi) hd (K H locs cells slots cl hI hL)
theorem am_o_iald9 (hx : p.tables.exec = Jvm.exec) (hb : c.code = cc) (hE : am_E G s) {x t n : Nat} {f : Nat → Int32} {i : Int32} (hh : h[x]? = some (.inl (9, n, .inl f))) (hP9 : ∀ H, am_P G h H → x = 0 ∧ n = G.2.1.1 ∧ f = G.2.1.2) (hi : am_outb i n = false) (hd : decode cc pc = .ok (.iaload, 1)) (K : am_Kn p l e R s m args below meth c Q G k0 z0 (pc + 1) ls (.int (f i.toNatClampNeg) :: st) h) : am_Kn p l e R s m args below meth c Q G k0 z0 pc ls (.int i :: .ref x :: st) h := by
  intro H locs cells slots cl hI hL
  obtain ⟨rfl, rfl, rfl⟩ := hP9 H hI.1
  exact va_sld hx hb hE.2.1 (Nat.lt_of_lt_of_le hE.1.1 hE.1.2.2) (Nat.not_le.mpr hE.1.1) hI.2.1 (am_outn hi) hd (K H locs cells slots cl hI hL)
theorem am_o_bald (hx : p.tables.exec = Jvm.exec) (hb : c.code = cc) (hK : am_K G s) {x n : Nat} {f : Nat → Int32} {i : Int32} (hh : h[x]? = some (.inl (1, n, .inl f))) (hi : am_outb i n = false) (hd : decode cc pc = .ok (.baload, 1)) (K : am_Kn p l e R s m args below meth c Q G k0 z0 (pc + 1) ls (.int (f i.toNatClampNeg) :: st) h) : am_Kn p l e R s m args below meth c Q G k0 z0 pc ls (.int i :: .ref x :: st) h := by
  intro H locs cells slots cl hI hL
  obtain ⟨k, rfl, hw⟩ := am_idx hI.1 hh rfl
  exact va_bald hx hb hK.2.1 hI.1.1 k 1 hw am_tyk.2.1 (am_outn hi) hd (K H locs cells slots cl hI hL)
theorem am_o_zald (hx : p.tables.exec = Jvm.exec) (hb : c.code = cc) (hK : am_K G s) {x n : Nat} {f : Nat → Int32} {i : Int32} (hh : h[x]? = some (.inl (2, n, .inl f))) (hi : am_outb i n = false) (hd : decode cc pc = .ok (.baload, 1)) (K : am_Kn p l e R s m args below meth c Q G k0 z0 (pc + 1) ls (.int (f i.toNatClampNeg) :: st) h) : am_Kn p l e R s m args below meth c Q G k0 z0 pc ls (.int i :: .ref x :: st) h := by
  intro H locs cells slots cl hI hL
  obtain ⟨k, rfl, hw⟩ := am_idx hI.1 hh rfl
  exact va_zald hx hb hK.2.1 hI.1.1 k 2 hw am_tyk.2.2.1 (am_outn hi) hd (K H locs cells slots cl hI hL)
theorem am_rfm (G : am_G) (o : Option Nat) : am_cv G (va_rf o) = va_rf (o.map (am_ad G)) := by cases o <;> rfl
theorem am_o_aald (hx : p.tables.exec = Jvm.exec) (hb : c.code = cc) (hK : am_K G s) {x n t : Nat} {f : Nat → Option Nat} {i : Int32} (ht : t = 3 ∨ t = 4) (hh : h[x]? = some (.inl (t, n, .inr (.inr (.inr (.inr f)))))) (hi : am_outb i n = false) (hd : decode cc pc = .ok (.aaload, 1)) (K : am_Kn p l e R s m args below meth c Q G k0 z0 (pc + 1) ls (va_rf (f i.toNatClampNeg) :: st) h) : am_Kn p l e R s m args below meth c Q G k0 z0 pc ls (.int i :: .ref x :: st) h := by
  intro H locs cells slots cl hI hL
  have K2 := K H locs cells slots cl hI hL
  rw [List.map_cons, am_rfm] at K2
  rcases ht with rfl | rfl
  · obtain ⟨k, rfl, hw⟩ := am_idx hI.1 hh rfl
    exact va_aldq hx hb hK.2.1 hI.1.1 k 3 hw am_tyk.2.2.2.1 (am_outn hi) hd K2
  · obtain ⟨k, rfl, hw⟩ := am_idx hI.1 hh rfl
    exact va_aldq hx hb hK.2.1 hI.1.1 k 4 hw am_tyk.2.2.2.2 (am_outn hi) hd K2
theorem am_o_iast (hx : p.tables.exec = Jvm.exec) (hb : c.code = cc) (hK : am_K G s) {x n : Nat} {f : Nat → Int32} {i v : Int32} (hh : h[x]? = some (.inl (0, n, .inl f))) (hi : am_outb i n = false) (hd : decode cc pc = .ok (.iastore, 1)) (K : am_Kn p l e R s m args below meth c Q G k0 z0 (pc + 1) ls st (h.set x (.inl (0, n, .inl (upd f i.toNatClampNeg v))))) : am_Kn p l e R s m args below meth c Q G k0 z0 pc ls (.int v :: .int i :: .ref x :: st) h := by
  intro H locs cells slots cl hI hL
  obtain ⟨k, rfl, hw⟩ := am_idx hI.1 hh rfl
  exact va_iast hx hb hK.2.1 hI.1.1 (am_D G h) hI.2.1 k 0 hw am_tyk.1 (am_outn hi) hd (fun H1 locs1 hP1 hD1 hS1 => am_hz fun hz => K H1 locs1 cells slots cl (am_I.upd hI hh (y' := .inl (0, n, .inl (upd f i.toNatClampNeg v))) rfl hP1 hS1 hz) hL)
theorem am_o_bast (hx : p.tables.exec = Jvm.exec) (hb : c.code = cc) (hK : am_K G s) {x n : Nat} {f : Nat → Int32} {i v : Int32} (hh : h[x]? = some (.inl (1, n, .inl f))) (hi : am_outb i n = false) (hd : decode cc pc = .ok (.bastore, 1)) (K : am_Kn p l e R s m args below meth c Q G k0 z0 (pc + 1) ls st (h.set x (.inl (1, n, .inl (upd f i.toNatClampNeg (vp_nar .byte v)))))) : am_Kn p l e R s m args below meth c Q G k0 z0 pc ls (.int v :: .int i :: .ref x :: st) h := by
  intro H locs cells slots cl hI hL
  obtain ⟨k, rfl, hw⟩ := am_idx hI.1 hh rfl
  exact va_bast hx hb hK.2.1 hI.1.1 (am_D G h) hI.2.1 k 1 hw am_tyk.2.1 (am_outn hi) hd (fun H1 locs1 hP1 hD1 hS1 => am_hz fun hz => K H1 locs1 cells slots cl (am_I.upd hI hh (y' := .inl (1, n, .inl (upd f i.toNatClampNeg (vp_nar .byte v)))) rfl hP1 hS1 hz) hL)
theorem am_o_zast (hx : p.tables.exec = Jvm.exec) (hb : c.code = cc) (hK : am_K G s) {x n : Nat} {f : Nat → Int32} {i v : Int32} (hh : h[x]? = some (.inl (2, n, .inl f))) (hi : am_outb i n = false) (hd : decode cc pc = .ok (.bastore, 1)) (K : am_Kn p l e R s m args below meth c Q G k0 z0 (pc + 1) ls st (h.set x (.inl (2, n, .inl (upd f i.toNatClampNeg (vp_nar .boolean v)))))) : am_Kn p l e R s m args below meth c Q G k0 z0 pc ls (.int v :: .int i :: .ref x :: st) h := by
  intro H locs cells slots cl hI hL
  obtain ⟨k, rfl, hw⟩ := am_idx hI.1 hh rfl
  exact va_zast hx hb hK.2.1 hI.1.1 (am_D G h) hI.2.1 k 2 hw am_tyk.2.2.1 (am_outn hi) hd (fun H1 locs1 hP1 hD1 hS1 => am_hz fun hz => K H1 locs1 cells slots cl (am_I.upd hI hh (y' := .inl (2, n, .inl (upd f i.toNatClampNeg (vp_nar .boolean v)))) rfl hP1 hS1 hz) hL)
theorem am_o_alen (hx : p.tables.exec = Jvm.exec) (hb : c.code = cc) (hK : am_K G s) {x n t : Nat} {a : (Nat → Int32) ⊕ (Nat → Int64) ⊕ (Nat → UInt32) ⊕ (Nat → UInt64) ⊕ (Nat → Option Nat)} (ht : t < 5) (hh : h[x]? = some (.inl (t, n, a))) (hd : decode cc pc = .ok (.arraylength, 1)) (K : am_Kn p l e R s m args below meth c Q G k0 z0 (pc + 1) ls (.int (Int32.ofNat n) :: st) h) : am_Kn p l e R s m args below meth c Q G k0 z0 pc ls (.ref x :: st) h := by
  intro H locs cells slots cl hI hL
  obtain ⟨k, rfl, hw⟩ := am_idx hI.1 hh (by simp [am_ne, ht])
  have hty : ∃ ty, (am_tys G)[t]? = some (G.2.2.2 t, ty) := by
    match t, ht with
    | 0, _ => exact ⟨_, rfl⟩
    | 1, _ => exact ⟨_, rfl⟩
    | 2, _ => exact ⟨_, rfl⟩
    | 3, _ => exact ⟨_, rfl⟩
    | 4, _ => exact ⟨_, rfl⟩
  obtain ⟨ty, hty⟩ := hty
  exact va_alen hx hb hK.2.1 hI.1.1 k t hw hty rfl hd (K H locs cells slots cl hI hL)
theorem am_o_alen9 (hx : p.tables.exec = Jvm.exec) (hb : c.code = cc) (hE : am_E G s) {x n : Nat} (hx0 : x = 0) (hn : n = G.2.1.1) (hd : decode cc pc = .ok (.arraylength, 1)) (K : am_Kn p l e R s m args below meth c Q G k0 z0 (pc + 1) ls (.int (Int32.ofNat n) :: st) h) : am_Kn p l e R s m args below meth c Q G k0 z0 pc ls (.ref x :: st) h := by
  subst hx0
  subst hn
  exact fun H locs cells slots cl hI hL => va_slen hx hb hE.2.1 (Nat.lt_of_lt_of_le hE.1.1 hE.1.2.2) (Nat.not_le.mpr hE.1.1) hI.2.1 hd (K H locs cells slots cl hI hL)
theorem am_o_alen8 (hx : p.tables.exec = Jvm.exec) (hb : c.code = cc) (hE : am_E G s) {x n : Nat} (hx0 : x = 1) (hn : n = 0) (hd : decode cc pc = .ok (.arraylength, 1)) (K : am_Kn p l e R s m args below meth c Q G k0 z0 (pc + 1) ls (.int (Int32.ofNat n) :: st) h) : am_Kn p l e R s m args below meth c Q G k0 z0 pc ls (.ref x :: st) h := by
  subst hx0
  subst hn
  intro H locs cells slots cl hI hL
  obtain ⟨cell, g1, g2, g3, g4, g5, g6, g7⟩ := hE.2.2.2
  exact W.alen (n := Int32.ofNat 0) hx hb (by show H[G.1.2.2.1]? = some cell; rw [hI.2.1.2.1 _ (Nat.lt_of_lt_of_le hE.1.2.1 hE.1.2.2) (Nat.not_le.mpr hE.1.2.1)]; exact g1) g2 g5 rfl rfl hd (K H locs cells slots cl hI hL)
end AMP
