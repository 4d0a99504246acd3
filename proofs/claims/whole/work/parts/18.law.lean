/-! THE CLAIM OUT OF ONE WALK OF THE LAW'S BODY. Your part is whole_start (and what it stands on); all else here is the same for every law, but numbers. -/
def R_law : String := "CriersOfficeLaw"
def lw_P (b : Addr) (xs : List Int32) (args : Array Value) (s : State) : Prop := args = #[.ref b] ∧ s.IntsAt b xs ∧ xs.length ≤ 3072 ∧ (Jvm.Cond.and given_1 narrow_1).before args s = true
def lw_Q (_ : Array Value) (s : State) (o : Outcome) (t : State) : Prop := o = .returned (some (.int 1)) ∧ Framed s o t [] 600000 7302250
def lw_Z (below : List Frame) (a : Array Value) (s : State) : State → Prop := fun t => ∃ o, t.status = .running ∧ Ended t below o ∧ lw_Q a s o t
/-- the law's own end, with 1 on the stack, nothing written that was there before, its room as the claim has it -/
theorem lw_ret {p : Program} {l : Launch} {e : Env} {s : State} {m : MethodId} {below : List Frame} {meth : Method} {c : Code} {b : Nat} (hx : p.tables.exec = Jvm.exec) (hb : c.code = code) (hr : meth.sig.returnType = ret) (hlocks : meth.locks = false) {pc : Nat} {H : Heap} {ls : Array Slot} (hdg : decode code pc = .ok (.ireturn, 1)) : W p l e room_1 s m #[Value.ref b] below meth c H [] 600000 7302250 (lw_Z below #[Value.ref b] s) (F0 m pc ls [.int 1]) := by
  intro T hT X
  obtain ⟨fs, hret, hrun, hended, hW, hframe⟩ := X.leave (v := some (.int 1)) (hlocks := hlocks) (fun h => by rw [hr] at h; cases h)
  have hmeth' : T.vm.method? m = some meth := X.method'
  refine ⟨T.setFrames fs, ?_, .returned (some (.int 1)), hrun, hended, rfl, ⟨_, rfl⟩, hW, hframe⟩
  jvm_step X.here [X.here.top, hx, hb, hdg, hmeth', hr, ret, narrow_b1]
  (try refine ⟨rfl, ?_⟩); (try refine ⟨rfl, ?_⟩)
  first | (intro acts; rw [hret _ acts rfl rfl rfl]) | rw [hret _ _ rfl rfl rfl]
  exact Steps.refl _
/-- what holds at the law's entry: the machine, the code, the tables' words (any of lw_tbl by 'hts w (by decide +kernel)'), the script of L ints xs at the cell b, what the Statement gives of the start (any of its parts by flat_of_before) -/
def lw_At (p : Program) (s : State) (m : MethodId) (meth : Method) (c : Code) (b L : Nat) (xs : Nat → Int32) : Prop :=
  p.tables.exec = Jvm.exec ∧ c.code = code ∧ meth.sig.returnType = ret ∧ c.maxLocals = 4 ∧ s.vm.findClass R_law = some m.cls ∧ (∀ w ∈ lw_tbl, w.before #[Value.ref b] s = true) ∧ va_X b L xs s s.heap ∧ b < s.heap.size ∧ meth.locks = false ∧ (Jvm.Cond.and given_1 narrow_1).before #[Value.ref b] s = true
theorem am_ins0 : am_w 81 (.instantiable RJx4a65c 3) = true := by decide +kernel
theorem am_ins1 : am_w 126 (.instantiable RX0 3) = true := by decide +kernel
theorem am_ins2 : am_w 613 (.instantiable RX1 2) = true := by decide +kernel
theorem am_ins3 : am_w 664 (.instantiable RX2 6) = true := by decide +kernel
theorem am_ins4 : am_w 353 (.instantiable RX3 4) = true := by decide +kernel
theorem am_ins5 : am_w 508 (.instantiable RX4 9) = true := by decide +kernel
theorem am_ins6 : am_w 144 (.instantiable RX5 4) = true := by decide +kernel
theorem am_ins7 : am_w 108 (.instantiable RX6 2) = true := by decide +kernel
theorem am_ins8 : am_w 220 (.instantiable RX7 3) = true := by decide +kernel
theorem am_ins9 : am_w 726 (.instantiable RX8 5) = true := by decide +kernel
theorem am_ins10 : am_w 73 (.instantiable RX9 14) = true := by decide +kernel
theorem am_ins11 : am_w 832 (.instantiable RX10 47) = true := by decide +kernel
theorem am_wd_ls : am_w 93 (.laysStatic RJx4a65c "DEFAULTCAPACITY_EMPTY_ELEMENTDATA" "[Ljava/lang/Object;") = true := by decide +kernel
theorem am_wd_il : am_w 54 (.initialized RJx4a65c) = true := by decide +kernel
theorem am_wany {s : State} {w : Jvm.Cond} {A0 : Array Value} (hk : am_kw w = true) (h : w.before A0 s = true) (a : Array Value) : w.before a s = true := by
  by_cases hg : goodWord w = true
  · exact word_at (args := A0) (U := s) (State.WarmedH.refl s) (good_of_word hg) h
  · cases w with
    | fieldLinkNest => exact va_tabs rfl rfl h
    | methodLinkNest => exact va_tabs rfl rfl h
    | castable => exact va_tabs rfl rfl h
    | declares => exact va_tabs rfl rfl h
    | arrayOver ty =>
      cases ty with
      | object C => exact va_AO.use (va_AO.of h)
      | _ => exact absurd (by simpa [am_kw] using hk) hg
    | _ => exact absurd (by simpa [am_kw] using hk) hg
theorem am_w1 {s : State} {A0 : Array Value} (hts : ∀ w ∈ lw_tbl, w.before A0 s = true) {q : Nat} {w : Jvm.Cond} (hq : am_w q w = true) : w.before A0 s = true := hts w (List.mem_of_getElem? (of_decide_eq_true hq))
theorem am_arC {s : State} {A0 : Array Value} {ty : FieldType} (h : (Jvm.Cond.arrayClass ty).before A0 s = true) : ∃ cA, ArrOfT s cA ty ∧ s.vm.findClass ("[" ++ ty.toString) = some cA := by
  obtain ⟨c, k, comp, h1, h2, h3⟩ := Cond.arrayClass_spec h
  exact ⟨c, fun n z => ⟨fun k h => (by cases h), k, h2, comp, h3⟩, h1⟩
theorem am_arO {s : State} {A0 : Array Value} {C : String} (h : (Jvm.Cond.arrayOver (.object C)).before A0 s = true) : ∃ cA, ArrOfT s cA (.object C) ∧ va_RA s cA (.object C) := by
  obtain ⟨comp, c, k, h1, h2, h3, h4, h5⟩ := Cond.arrayOver_spec h
  exact ⟨c, fun n z => ⟨fun k h => (by cases h), k, h3, comp, h4⟩, k, comp, h3, h4, h1, h5⟩
theorem am_kn {s : State} {A0 : Array Value} (hts : ∀ w ∈ lw_tbl, w.before A0 s = true) : ∀ k : Nat, ∃ (cC : ClassId) (iS : Nat → Nat), ∀ r, vwCl[k]? = some r → u_Kn s r.1 r.2.1 r.2.2 cC iS := by
  intro k
  have htk : ∀ w ∈ am_Tk, w.before A0 s = true := fun w hw => hts w (List.mem_filter.mp hw).1
  match k with
  | 0 =>
    obtain ⟨cC, iS, h⟩ := u_known (C := RJx4a65c) (T := TJx4a65c) (N := 3) (n := 3) htk am_cf0.1 (am_w1 hts am_ins0)
    exact ⟨cC, iS, fun r hr => (Option.some.inj hr) ▸ h⟩
  | 1 =>
    obtain ⟨cC, iS, h⟩ := u_known (C := RX0) (T := TX0) (N := 3) (n := 3) htk am_cf1.1 (am_w1 hts am_ins1)
    exact ⟨cC, iS, fun r hr => (Option.some.inj hr) ▸ h⟩
  | 2 =>
    obtain ⟨cC, iS, h⟩ := u_known (C := RX1) (T := TX1) (N := 2) (n := 2) htk am_cf2.1 (am_w1 hts am_ins2)
    exact ⟨cC, iS, fun r hr => (Option.some.inj hr) ▸ h⟩
  | 3 =>
    obtain ⟨cC, iS, h⟩ := u_known (C := RX2) (T := TX2) (N := 6) (n := 6) htk am_cf3.1 (am_w1 hts am_ins3)
    exact ⟨cC, iS, fun r hr => (Option.some.inj hr) ▸ h⟩
  | 4 =>
    obtain ⟨cC, iS, h⟩ := u_known (C := RX3) (T := TX3) (N := 4) (n := 4) htk am_cf4.1 (am_w1 hts am_ins4)
    exact ⟨cC, iS, fun r hr => (Option.some.inj hr) ▸ h⟩
  | 5 =>
    obtain ⟨cC, iS, h⟩ := u_known (C := RX4) (T := TX4) (N := 9) (n := 9) htk am_cf5.1 (am_w1 hts am_ins5)
    exact ⟨cC, iS, fun r hr => (Option.some.inj hr) ▸ h⟩
  | 6 =>
    obtain ⟨cC, iS, h⟩ := u_known (C := RX5) (T := TX5) (N := 4) (n := 4) htk am_cf6.1 (am_w1 hts am_ins6)
    exact ⟨cC, iS, fun r hr => (Option.some.inj hr) ▸ h⟩
  | 7 =>
    obtain ⟨cC, iS, h⟩ := u_known (C := RX6) (T := TX6) (N := 2) (n := 2) htk am_cf7.1 (am_w1 hts am_ins7)
    exact ⟨cC, iS, fun r hr => (Option.some.inj hr) ▸ h⟩
  | 8 =>
    obtain ⟨cC, iS, h⟩ := u_known (C := RX7) (T := TX7) (N := 3) (n := 3) htk am_cf8.1 (am_w1 hts am_ins8)
    exact ⟨cC, iS, fun r hr => (Option.some.inj hr) ▸ h⟩
  | 9 =>
    obtain ⟨cC, iS, h⟩ := u_known (C := RX8) (T := TX8) (N := 5) (n := 5) htk am_cf9.1 (am_w1 hts am_ins9)
    exact ⟨cC, iS, fun r hr => (Option.some.inj hr) ▸ h⟩
  | 10 =>
    obtain ⟨cC, iS, h⟩ := u_known (C := RX9) (T := TX9) (N := 14) (n := 14) htk am_cf10.1 (am_w1 hts am_ins10)
    exact ⟨cC, iS, fun r hr => (Option.some.inj hr) ▸ h⟩
  | 11 =>
    obtain ⟨cC, iS, h⟩ := u_known (C := RX10) (T := TX10) (N := 47) (n := 47) htk am_cf11.1 (am_w1 hts am_ins11)
    exact ⟨cC, iS, fun r hr => (Option.some.inj hr) ▸ h⟩
  | k + 12 => exact ⟨0, fun _ => 0, fun r hr => absurd (am_cl12 hr) (by omega)⟩
def am_ex0 (L : Nat) (xs : Nat → Int32) : am_H := [.inl (9, L, .inl xs), .inl (8, 0, .inr (.inr (.inr (.inr (fun _ => none))))), .inr (99, [])]
set_option maxHeartbeats 4000000 in
set_option maxRecDepth 100000 in
/-- the law's walk out of a run of the small machine -/
theorem am_whole {p : Program} {e : Env} {s : State} {m : MethodId} {below : List Frame} {meth : Method} {c : Code} (l : Launch) {b L : Nat} {xs : Nat → Int32} (C0 : lw_At p s m meth c b L xs) {f : Nat} {h9 : am_H} (hrun : am_run f 195 (0, [some (.ref 0), none, none, none], []) (am_ex0 L xs) = some (some (.int 1), h9)) (hc9 : h9.length ≤ 600003) (hs9 : am_sz h9 ≤ L + 7302250) : W p l e room_1 s m #[Value.ref b] below meth c s.heap [] 0 0 (lw_Z below #[Value.ref b] s) (entryFrame m ([Value.ref b] : List Value).toArray 4) := by
  obtain ⟨hx, hb, hr, hml, hown, hts, hX, hbl, hlocks, hgv⟩ := C0
  obtain ⟨dC, hd⟩ := Classical.skolem.mp (am_kn hts)
  obtain ⟨dI, hdI⟩ := Classical.skolem.mp hd
  obtain ⟨c0, a0, b0⟩ := am_arC (am_w1 hts am_wd_ti)
  obtain ⟨c1, a1, b1⟩ := am_arC (am_w1 hts am_wd_tb)
  obtain ⟨c2, a2, b2⟩ := am_arC (am_w1 hts am_wd_tz)
  obtain ⟨c3, a3, b3⟩ := am_arO (am_w1 hts am_wd_to)
  obtain ⟨c4, a4, b4⟩ := am_arO (am_w1 hts am_wd_th)
  have hfl := flat_of_before _ hgv
  obtain ⟨mi0, hmi⟩ := va_Mi.of (hfl (.isRef (.mirror "[Ljava/lang/Object;")) (by decide +kernel))
  have hlen : (Term.length (.static "java/util/ArrayList" "DEFAULTCAPACITY_EMPTY_ELEMENTDATA" "[Ljava/lang/Object;")).eval #[Value.ref b] s none [] s = some (.int 0) := va_eqt (hfl (.eq (.length (.static "java/util/ArrayList" "DEFAULTCAPACITY_EMPTY_ELEMENTDATA" "[Ljava/lang/Object;")) (.int 0)) (by decide +kernel))
  have hA0 : ∀ a : Nat, a < s.heap.size → ¬ (fun q : Nat => s.heap.size ≤ q) a := fun a ha => Nat.not_le.mpr ha
  obtain ⟨e0, he0, hT⟩ := va_Tof (N := 0) (f := fun _ => .null) (A := fun q : Nat => s.heap.size ≤ q) (by decide) (hfl (.arrayOf (.static "java/util/ArrayList" "DEFAULTCAPACITY_EMPTY_ELEMENTDATA" "[Ljava/lang/Object;") (.object "java/lang/Object")) (by decide +kernel)) hlen (fun j hj => absurd hj (Nat.not_lt_zero j)) hA0
  have hZ := va_Zof (am_w1 hts am_wd_ls) (am_w1 hts am_wd_il) he0 hA0
  have hel : e0 < s.heap.size := by
    obtain ⟨cell, q1, -⟩ := hT
    exact (Array.getElem?_eq_some_iff.mp q1).1
  let G : am_G := ((s.heap.size, b, e0, mi0), (L, xs), (dC, dI), fun t => match t with
    | 0 => c0
    | 1 => c1
    | 2 => c2
    | 3 => c3
    | _ => c4)
  have hK : am_K G s := by
    refine ⟨fun w hw hk a => am_wany hk (hts w hw) a, ⟨fun k q hq => hdI k q hq, fun k q hq => ?_⟩, hmi⟩
    match k, hq with
    | 0, hq => cases hq; exact ⟨a0, b0⟩
    | 1, hq => cases hq; exact ⟨a1, b1⟩
    | 2, hq => cases hq; exact ⟨a2, b2⟩
    | 3, hq => cases hq; exact ⟨a3, b3⟩
    | 4, hq => cases hq; exact ⟨a4, b4⟩
    | k + 5, hq => cases hq
  have hE : am_E G s := ⟨⟨hbl, hel, Nat.le_refl _⟩, hX, hZ, hT⟩
  have hP : am_P G (am_ex0 L xs) s.heap := ⟨fun k q hq => (by have e9 : am_ws G (am_ex0 L xs) = [] := rfl; rw [e9] at hq; simp at hq), rfl, rfl⟩
  have hC : am_Cx p s m #[Value.ref b] meth c room_1 G (19, false, 1, 4, 8, 200, am_t195) (yL_law, cL_law, some .boolean, 1, true, 0, 0, 0, 0) := ⟨hx, hb, hml, hown, hK, hE, (fun q => by cases q), (by decide), (by decide)⟩
  have hret : am_Rt p l e room_1 s m #[Value.ref b] below meth c (lw_Z below #[Value.ref b] s) G 3 L (19, false, 1, 4, 8, 200, am_t195) (yL_law, cL_law, some .boolean, 1, true, 0, 0, 0, 0) (some (.int 1)) h9 := by
    intro i pc H locs cells slots cl hd hk hI
    have hi : i = .ireturn := by
      rcases hk with ⟨h1, -⟩ | ⟨-, x, h2, -⟩ | ⟨-, x, h2, -⟩ | ⟨-, h2, -⟩
      · exact h1
      · cases h2
      · cases h2
      · cases h2
    subst hi
    refine va_forget (fun q hq => hI.2.1.2.2 q hq) (W.widen (k := 600000) (n := 7302250) ?_ ?_ (lw_ret hx hb hr hlocks hd))
    · have := hI.2.2.1
      omega
    · have := hI.2.2.2.1
      omega
  have hrm : h9.length ≤ room_1.cells + 3 ∧ am_sz h9 ≤ room_1.slots + L := by
    refine ⟨hc9, ?_⟩
    show am_sz h9 ≤ 7302250 + L
    omega
  have key := am_core (M := (19, false, 1, 4, 8, 200, am_t195)) (Y := (yL_law, cL_law, some .boolean, 1, true, 0, 0, 0, 0)) (e := e) (below := below) (Q := lw_Z below #[Value.ref b] s) (k0 := 3) (z0 := L) (am_all l G f) am_lawM am_lawrows hC hrm hret f (Nat.le_refl f) rfl hrun
  rw [lg_entry_eq]
  exact key s.heap [] 0 0 _ ⟨hP, va_S.rf, rfl, by show 0 + L = am_sz (am_ex0 L xs); simp [am_sz, am_ex0, am_sl], rfl⟩ (am_LV.entry G [.ref 0] (n := 4) (by decide))
