/-! calls -/
def am_Pc (G : am_G) (as : List Value) (h : am_H) : Array Value → State → Prop := fun A U => A = (as.map (am_cv G)).toArray ∧ am_K G U ∧ am_E G U ∧ am_P G h U.heap
def am_Qc (G : am_G) (v : Option Value) (h' : am_H) : Array Value → State → Outcome → State → Prop := fun _ st o t => o = .returned (v.map (am_cv G)) ∧ am_P G h' t.heap ∧ ∀ q, q < G.1.1 → t.heap[q]? = st.heap[q]?
def am_rm (N : am_M) (h h' : am_H) : Room := { frames := N.2.2.2.2.1, cells := h'.length - h.length, slots := am_sz h' - am_sz h, locals := N.2.2.2.2.2.1 }
def am_Ms (l : Launch) (G : am_G) (N : am_M) (Y : am_Y) (as : List Value) (h : am_H) (v : Option Value) (h' : am_H) : Prop := Met l Y.1 [Jvm.Cond.code Y.1 Y.2.1 N.2.2.2.1 Y.2.2.1] (am_rm N h h') (am_Pc G as h) (am_Qc G v h') (h'.length - h.length) (am_sz h' - am_sz h) (am_A G)
theorem am_blind (G : am_G) (as : List Value) (h : am_H) : FrameBlind (am_Pc G as h) := by
  intro a U g mk ⟨h1, h2, h3, h4⟩
  exact ⟨h1, am_K.mv (s := U) (U := U.calling g mk a) (State.WarmedH.refl U) h2, am_E.mv (s := U) (U := U.calling g mk a) (locs := []) (State.WarmedH.refl U) va_S.rf h3, h4⟩
theorem am_yok_inv {N : am_M} {Y : am_Y} (h : am_yok N Y = true) : am_w Y.2.2.2.2.2.1 (.code Y.1 Y.2.1 N.2.2.2.1 Y.2.2.1) = true ∧ am_w Y.2.2.2.2.2.2.1 (.initialized Y.1.cls) = true ∧ (if Y.2.2.2.2.1 = true then am_w Y.2.2.2.2.2.2.2.1 (.static Y.1) else am_w Y.2.2.2.2.2.2.2.1 (.instanceMethod Y.1)) = true ∧ (if Y.2.2.2.2.1 = true then true else if Y.1.name = "<init>" then true else am_w Y.2.2.2.2.2.2.2.2 (.selects Y.1.cls Y.1 Y.1)) = true ∧ (Y.1.cls ≠ "java/lang/invoke/MethodHandle" ∧ Y.1.cls ≠ "java/lang/invoke/VarHandle") ∧ plainName Y.1.cls = true ∧ (parseMethodDescriptor Y.1.desc).map (fun d => d.parameters.length) = some Y.2.2.2.1 ∧ Y.1.cls = am_cnm N.1 ∧ N.2.1 = decide (Y.1.name = "<init>") ∧ (match N.2.2.1 with
      | 0 => decide (Y.2.2.1 = some .int)
      | 1 => decide (Y.2.2.1 = some .boolean)
      | 2 => decide (Y.2.2.1 = some .long)
      | 3 => (match Y.2.2.1 with
        | some (.object _) => true
        | some (.array _) => true
        | _ => false)
      | 4 => decide (Y.2.2.1 = none)
      | _ => false) = true := by
  obtain ⟨y, c, ret, np, st, pc, pi, pk, ps⟩ := Y
  simp only [am_yok, Bool.and_eq_true] at h
  obtain ⟨⟨⟨⟨⟨⟨⟨⟨⟨h1, h2⟩, h3⟩, h4⟩, h5⟩, h6⟩, h7⟩, h8⟩, h9⟩, h10⟩ := h
  exact ⟨h1, h2, h3, h4, of_decide_eq_true h5, h6, of_decide_eq_true h7, of_decide_eq_true h8, of_decide_eq_true h9, h10⟩
section AMR
variable {p : Program} {l : Launch} {e : Env} {R : Room} {s : State} {m : MethodId} {args : Array Value} {below : List Frame} {meth : Method} {c : Code} {Q : State → Prop} {G : am_G} {k0 z0 : Nat} {cc : ByteArray} {pc nL : Nat} {ls ls' : am_L} {st : List Value} {h h' : am_H} {H : Heap} {locs : List Loc} {cells slots : Nat} {cl : Array Slot}
theorem am_go {mc ms : Nat} {st0 rest : List Value} {Qa : State → Outcome → State → Prop} {free : Addr → Prop} (hr : va_Run p l e R s m args below meth c H locs cells slots mc ms (F0 m pc cl st0) rest Qa free) (kk : ∀ (v : Option Value) (st₀ t : State) (L : List Loc), st₀.heap = H → Qa st₀ (.returned v) t → (∀ q ∈ L, free q.base) → W p l e R s m args below meth c t.heap (locs ++ L) (cells + mc) (slots + ms) Q (F0 m (pc + 3) cl (v.toList ++ rest))) : W p l e R s m args below meth c H locs cells slots Q (F0 m pc cl st0) := by
  intro T hT X
  obtain ⟨v, st₀, t, T', L, h0, X', hL, e1, e2, hq, go⟩ := hr T hT X
  obtain ⟨t2, a1, b1⟩ := kk v st₀ t L h0 hq hL T' e1 X'
  exact ⟨t2, go t2 a1, b1⟩
theorem am_after {v vv : Option Value} {st₀ t : State} {L : List Loc} {aa : Array Value} (hI : am_I G s h H locs cells slots k0 z0) (hE : am_E G s) (hmo : h.length ≤ h'.length ∧ am_sz h ≤ am_sz h') (h0 : st₀.heap = H) (hq : am_Qc G v h' aa st₀ (.returned vv) t) (hL : ∀ q ∈ L, am_A G q.base) : vv = v.map (am_cv G) ∧ am_I G s h' t.heap (locs ++ L) (cells + (h'.length - h.length)) (slots + (am_sz h' - am_sz h)) k0 z0 := by
  obtain ⟨q1, q2, q3⟩ := hq
  have i3 := hI.2.2.1
  have i4 := hI.2.2.2.1
  have i5 := hI.2.2.2.2
  have i6 := hI.1.2.2
  have i7 := q2.2.2
  have i8 := hI.2.1.1
  refine ⟨Outcome.returned.inj q1, q2, ⟨by omega, fun q a1 a2 => ?_, fun q hq => ?_⟩, by omega, by omega, i5⟩
  · rw [q3 q (Nat.not_le.mp a2), h0]
    exact hI.2.1.2.1 q a1 a2
  · rcases List.mem_append.mp hq with z | z
    · exact hI.2.1.2.2 q z
    · exact hL q z
theorem am_pre (hK : am_K G s) (hE : am_E G s) (hI : am_I G s h H locs cells slots k0 z0) (as : List Value) : ∀ U : State, U.heap = H → s.WarmedH U.vm → am_Pc G as h (as.map (am_cv G)).toArray U := by
  intro U hU hW
  subst hU
  exact ⟨rfl, am_K.mv hW hK, am_E.mv hW hI.2.1 hE, hI.1⟩
theorem am_vst (v : Option Value) : (v.map (am_cv G)).toList ++ st.map (am_cv G) = (v.toList ++ st).map (am_cv G) := by cases v <;> rfl
theorem am_ws1 {w : Jvm.Cond} (hg : goodWord w = true) (hw : ∀ a : Array Value, w.before a s = true) : ∀ w' ∈ [w], ∀ (a' : Array Value) (U : State), s.WarmedH U.vm → w'.before a' U = true := by
  intro w' h1 a' U hW
  rw [List.mem_singleton.mp h1]
  exact word_at (args := #[]) hW (good_of_word hg) (hw #[])
theorem am_o_callS (hx : p.tables.exec = Jvm.exec) (hb : c.code = cc) (hml : c.maxLocals = ls.length) (hK : am_K G s) (hE : am_E G s) {own : String} (ho : s.vm.findClass own = some m.cls) {i : Nat} {N : am_M} {Y : am_Y} (hy : am_yok N Y = true) (hst : Y.2.2.2.2.1 = true) (hlink : (Jvm.Cond.methodLink own i Y.1).before args s = true) {as : List Value} {v : Option Value} (hn : as.length = Y.2.2.2.1) (hct : am_Ms l G N Y as h v h') (hmo : h.length ≤ h'.length ∧ am_sz h ≤ am_sz h') (hsum : am_sum st ≤ 8) (hf : N.2.2.2.2.1 + 1 ≤ R.frames) (hlo : 8 + (N.2.2.2.1 + 11) + N.2.2.2.2.2.1 ≤ R.locals) (hrm : h'.length ≤ R.cells + k0 ∧ am_sz h' ≤ R.slots + z0) (hd : decode cc pc = .ok (.invokestatic i, 3)) (K : am_Kn p l e R s m args below meth c Q G k0 z0 (pc + 3) ls (v.toList ++ st) h') : am_Kn p l e R s m args below meth c Q G k0 z0 pc ls (as.reverse ++ st) h := by
  intro H locs cells slots cl hI hL
  have hcl := hI.2.2.1
  have hsl := hI.2.2.2.1
  obtain ⟨f1, f2, f3, f4, f5, f6, f7, f8, f9, f10⟩ := am_yok_inv hy
  rw [if_pos hst] at f3
  refine am_go (va_runS (As := as.map (am_cv G)) (rest := st.map (am_cv G)) (cc := cc) (nL := ls.length) (Ts := []) ⟨hx, hb, hml, ho, fun w hw => absurd hw List.not_mem_nil⟩ hct ⟨⟨rfl, rfl, hf, hlo, am_ws1 rfl (fun a => hK.w f1 rfl a), List.mem_singleton.mpr rfl, hK.w f1 rfl args, hK.w f2 rfl args, f5, fun sig hs => by rw [hs] at f7; exact (Option.some.inj f7).symm, hlink⟩, hK.w f3 rfl args⟩ ⟨am_blind G as h, am_pre hK hE hI as⟩ rfl (by rw [List.length_map, hn]) hL.1 (by simp [am_cv]) (lv_room (by rw [am_sum_cv]; exact hsum)) hd (by omega)) (fun vv st₀ t L h0 hq hL2 => ?_)
  obtain ⟨rfl, hI2⟩ := am_after hI hE hmo h0 hq hL2
  rw [am_vst]
  exact K _ _ _ _ cl hI2 hL
theorem am_o_callSN (hx : p.tables.exec = Jvm.exec) (hb : c.code = cc) (hml : c.maxLocals = ls.length) (hK : am_K G s) (hE : am_E G s) {own : String} (ho : s.vm.findClass own = some m.cls) {i : Nat} {N : am_M} {Y : am_Y} (hy : am_yok N Y = true) (hst : Y.2.2.2.2.1 = true) (hlink : (Jvm.Cond.methodLinkNest own i Y.1 "CriersOffice").before args s = true) {as : List Value} {v : Option Value} (hn : as.length = Y.2.2.2.1) (hct : am_Ms l G N Y as h v h') (hmo : h.length ≤ h'.length ∧ am_sz h ≤ am_sz h') (hsum : am_sum st ≤ 8) (hf : N.2.2.2.2.1 + 1 ≤ R.frames) (hlo : 8 + (N.2.2.2.1 + 11) + N.2.2.2.2.2.1 ≤ R.locals) (hrm : h'.length ≤ R.cells + k0 ∧ am_sz h' ≤ R.slots + z0) (hd : decode cc pc = .ok (.invokestatic i, 3)) (K : am_Kn p l e R s m args below meth c Q G k0 z0 (pc + 3) ls (v.toList ++ st) h') : am_Kn p l e R s m args below meth c Q G k0 z0 pc ls (as.reverse ++ st) h := by
  intro H locs cells slots cl hI hL
  have hcl := hI.2.2.1
  have hsl := hI.2.2.2.1
  obtain ⟨f1, f2, f3, f4, f5, f6, f7, f8, f9, f10⟩ := am_yok_inv hy
  rw [if_pos hst] at f3
  refine am_go (va_runSN (As := as.map (am_cv G)) (rest := st.map (am_cv G)) (cc := cc) (nL := ls.length) (Ts := []) (host := "CriersOffice") ⟨hx, hb, hml, ho, fun w hw => absurd hw List.not_mem_nil⟩ hct ⟨⟨⟨rfl, rfl, hf, hlo, am_ws1 rfl (fun a => hK.w f1 rfl a), List.mem_singleton.mpr rfl⟩, hK.w f1 rfl args, hK.w f2 rfl args, f5, fun sig hs => by rw [hs] at f7; exact (Option.some.inj f7).symm, hlink⟩, hK.w f3 rfl args, trivial⟩ ⟨am_blind G as h, am_pre hK hE hI as⟩ rfl (by rw [List.length_map, hn]) hL.1 (by simp [am_cv]) (lv_room (by rw [am_sum_cv]; exact hsum)) hd (by omega)) (fun vv st₀ t L h0 hq hL2 => ?_)
  obtain ⟨rfl, hI2⟩ := am_after hI hE hmo h0 hq hL2
  rw [am_vst]
  exact K _ _ _ _ cl hI2 hL
theorem am_o_callV (hx : p.tables.exec = Jvm.exec) (hb : c.code = cc) (hml : c.maxLocals = ls.length) (hK : am_K G s) (hE : am_E G s) {own : String} (ho : s.vm.findClass own = some m.cls) {i x : Nat} {N : am_M} {Y : am_Y} (hy : am_yok N Y = true) {a : Nat} {r : vw_C} {fs : List Value} (hr : vwCl[a]? = some r) (hrc : r.1 = Y.1.cls) (hh : h[x]? = some (.inr (a, fs))) (hst : Y.2.2.2.2.1 = false) (hnm : ¬ Y.1.name = "<init>") (hlink : (Jvm.Cond.methodLink own i Y.1).before args s = true) {as : List Value} {v : Option Value} (hn : as.length = Y.2.2.2.1) (hct : am_Ms l G N Y (.ref x :: as) h v h') (hmo : h.length ≤ h'.length ∧ am_sz h ≤ am_sz h') (hsum : am_sum st ≤ 8) (hf : N.2.2.2.2.1 + 1 ≤ R.frames) (hlo : 8 + (N.2.2.2.1 + 11) + N.2.2.2.2.2.1 ≤ R.locals) (hrm : h'.length ≤ R.cells + k0 ∧ am_sz h' ≤ R.slots + z0) (hd : decode cc pc = .ok (.invokevirtual i, 3)) (K : am_Kn p l e R s m args below meth c Q G k0 z0 (pc + 3) ls (v.toList ++ st) h') : am_Kn p l e R s m args below meth c Q G k0 z0 pc ls (as.reverse ++ .ref x :: st) h := by
  intro H locs cells slots cl hI hL
  have hcl := hI.2.2.1
  have hsl := hI.2.2.2.1
  obtain ⟨f1, f2, f3, f4, f5, f6, f7, f8, f9, f10⟩ := am_yok_inv hy
  rw [if_neg (by rw [hst]; decide)] at f3
  rw [if_neg (by rw [hst]; decide), if_neg hnm] at f4
  obtain ⟨k, rfl, hw⟩ := am_idx hI.1 hh (by simp [am_ne, am_cl12 hr])
  refine am_go (va_runV (As := as.map (am_cv G)) (rest := st.map (am_cv G)) (cc := cc) (nL := ls.length) (Ts := []) (C := Y.1.cls) ⟨hx, hb, hml, ho, fun w hw => absurd hw List.not_mem_nil⟩ hct ⟨⟨rfl, rfl, hf, hlo, am_ws1 rfl (fun a => hK.w f1 rfl a), List.mem_singleton.mpr rfl, hK.w f1 rfl args, hK.w f2 rfl args, f5, fun sig hs => by rw [hs] at f7; exact (Option.some.inj f7).symm, hlink⟩, hK.w f3 rfl args, hK.w f4 rfl args⟩ ⟨am_blind G (.ref (k + 3) :: as) h, hrc ▸ va_recv hK.2.1 hI.1.1 hr hw, am_pre hK hE hI (.ref (k + 3) :: as)⟩ rfl (by rw [List.length_map, hn]) hL.1 (by simp [am_cv]) (lv_room (by rw [am_sum_cv]; exact hsum)) hd (by omega)) (fun vv st₀ t L h0 hq hL2 => ?_)
  obtain ⟨rfl, hI2⟩ := am_after hI hE hmo h0 hq hL2
  rw [am_vst]
  exact K _ _ _ _ cl hI2 hL
theorem am_o_callVN (hx : p.tables.exec = Jvm.exec) (hb : c.code = cc) (hml : c.maxLocals = ls.length) (hK : am_K G s) (hE : am_E G s) {own : String} (ho : s.vm.findClass own = some m.cls) {i x : Nat} {N : am_M} {Y : am_Y} (hy : am_yok N Y = true) {a : Nat} {r : vw_C} {fs : List Value} (hr : vwCl[a]? = some r) (hrc : r.1 = Y.1.cls) (hh : h[x]? = some (.inr (a, fs))) (hst : Y.2.2.2.2.1 = false) (hnm : ¬ Y.1.name = "<init>") (hlink : (Jvm.Cond.methodLinkNest own i Y.1 "CriersOffice").before args s = true) {as : List Value} {v : Option Value} (hn : as.length = Y.2.2.2.1) (hct : am_Ms l G N Y (.ref x :: as) h v h') (hmo : h.length ≤ h'.length ∧ am_sz h ≤ am_sz h') (hsum : am_sum st ≤ 8) (hf : N.2.2.2.2.1 + 1 ≤ R.frames) (hlo : 8 + (N.2.2.2.1 + 11) + N.2.2.2.2.2.1 ≤ R.locals) (hrm : h'.length ≤ R.cells + k0 ∧ am_sz h' ≤ R.slots + z0) (hd : decode cc pc = .ok (.invokevirtual i, 3)) (K : am_Kn p l e R s m args below meth c Q G k0 z0 (pc + 3) ls (v.toList ++ st) h') : am_Kn p l e R s m args below meth c Q G k0 z0 pc ls (as.reverse ++ .ref x :: st) h := by
  intro H locs cells slots cl hI hL
  have hcl := hI.2.2.1
  have hsl := hI.2.2.2.1
  obtain ⟨f1, f2, f3, f4, f5, f6, f7, f8, f9, f10⟩ := am_yok_inv hy
  rw [if_neg (by rw [hst]; decide)] at f3
  rw [if_neg (by rw [hst]; decide), if_neg hnm] at f4
  obtain ⟨k, rfl, hw⟩ := am_idx hI.1 hh (by simp [am_ne, am_cl12 hr])
  refine am_go (va_runVN (As := as.map (am_cv G)) (rest := st.map (am_cv G)) (cc := cc) (nL := ls.length) (Ts := []) (C := Y.1.cls) (host := "CriersOffice") ⟨hx, hb, hml, ho, fun w hw => absurd hw List.not_mem_nil⟩ hct ⟨⟨⟨rfl, rfl, hf, hlo, am_ws1 rfl (fun a => hK.w f1 rfl a), List.mem_singleton.mpr rfl⟩, hK.w f1 rfl args, hK.w f2 rfl args, f5, fun sig hs => by rw [hs] at f7; exact (Option.some.inj f7).symm, hlink⟩, hK.w f3 rfl args, hK.w f4 rfl args⟩ ⟨am_blind G (.ref (k + 3) :: as) h, hrc ▸ va_recv hK.2.1 hI.1.1 hr hw, am_pre hK hE hI (.ref (k + 3) :: as)⟩ rfl (by rw [List.length_map, hn]) hL.1 (by simp [am_cv]) (lv_room (by rw [am_sum_cv]; exact hsum)) hd (by omega)) (fun vv st₀ t L h0 hq hL2 => ?_)
  obtain ⟨rfl, hI2⟩ := am_after hI hE hmo h0 hq hL2
  rw [am_vst]
  exact K _ _ _ _ cl hI2 hL
theorem am_o_callI (hx : p.tables.exec = Jvm.exec) (hb : c.code = cc) (hml : c.maxLocals = ls.length) (hK : am_K G s) (hE : am_E G s) {own : String} (ho : s.vm.findClass own = some m.cls) {i x : Nat} {N : am_M} {Y : am_Y} (hy : am_yok N Y = true) (hst : Y.2.2.2.2.1 = false) (hnm : Y.1.name = "<init>") (hrn : Y.2.2.1 = none) (hlink : (Jvm.Cond.methodLink own i Y.1).before args s = true) {as : List Value} {v : Option Value} (hn : as.length = Y.2.2.2.1) (hct : am_Ms l G N Y (.ref x :: as) h v h') (hmo : h.length ≤ h'.length ∧ am_sz h ≤ am_sz h') (hsum : am_sum st ≤ 8) (hf : N.2.2.2.2.1 + 1 ≤ R.frames) (hlo : 8 + (N.2.2.2.1 + 11) + N.2.2.2.2.2.1 ≤ R.locals) (hrm : h'.length ≤ R.cells + k0 ∧ am_sz h' ≤ R.slots + z0) (hd : decode cc pc = .ok (.invokespecial i, 3)) (K : am_Kn p l e R s m args below meth c Q G k0 z0 (pc + 3) ls (v.toList ++ st) h') : am_Kn p l e R s m args below meth c Q G k0 z0 pc ls (as.reverse ++ .ref x :: st) h := by
  intro H locs cells slots cl hI hL
  have hcl := hI.2.2.1
  have hsl := hI.2.2.2.1
  obtain ⟨f1, f2, f3, f4, f5, f6, f7, f8, f9, f10⟩ := am_yok_inv hy
  rw [if_neg (by rw [hst]; decide)] at f3
  unfold am_Ms at hct
  rw [hrn] at hct f1
  refine am_go (va_runI (As := as.map (am_cv G)) (rest := st.map (am_cv G)) (cc := cc) (nL := ls.length) (Ts := []) ⟨hx, hb, hml, ho, fun w hw => absurd hw List.not_mem_nil⟩ hct ⟨⟨rfl, rfl, hf, hlo, am_ws1 rfl (fun a => hK.w f1 rfl a), List.mem_singleton.mpr rfl, hK.w f1 rfl args, hK.w f2 rfl args, f5, fun sig hs => by rw [hs] at f7; exact (Option.some.inj f7).symm, hlink⟩, hnm, hK.w f3 rfl args⟩ ⟨am_blind G (.ref x :: as) h, am_pre hK hE hI (.ref x :: as)⟩ rfl (by rw [List.length_map, hn]) hL.1 (by simp [am_cv]) (lv_room (by rw [am_sum_cv]; exact hsum)) hd (by omega)) (fun vv st₀ t L h0 hq hL2 => ?_)
  obtain ⟨rfl, hI2⟩ := am_after hI hE hmo h0 hq hL2
  rw [am_vst]
  exact K _ _ _ _ cl hI2 hL
theorem am_o_callIN (hx : p.tables.exec = Jvm.exec) (hb : c.code = cc) (hml : c.maxLocals = ls.length) (hK : am_K G s) (hE : am_E G s) {own : String} (ho : s.vm.findClass own = some m.cls) {i x : Nat} {N : am_M} {Y : am_Y} (hy : am_yok N Y = true) (hst : Y.2.2.2.2.1 = false) (hnm : Y.1.name = "<init>") (hrn : Y.2.2.1 = none) (hlink : (Jvm.Cond.methodLinkNest own i Y.1 "CriersOffice").before args s = true) {as : List Value} {v : Option Value} (hn : as.length = Y.2.2.2.1) (hct : am_Ms l G N Y (.ref x :: as) h v h') (hmo : h.length ≤ h'.length ∧ am_sz h ≤ am_sz h') (hsum : am_sum st ≤ 8) (hf : N.2.2.2.2.1 + 1 ≤ R.frames) (hlo : 8 + (N.2.2.2.1 + 11) + N.2.2.2.2.2.1 ≤ R.locals) (hrm : h'.length ≤ R.cells + k0 ∧ am_sz h' ≤ R.slots + z0) (hd : decode cc pc = .ok (.invokespecial i, 3)) (K : am_Kn p l e R s m args below meth c Q G k0 z0 (pc + 3) ls (v.toList ++ st) h') : am_Kn p l e R s m args below meth c Q G k0 z0 pc ls (as.reverse ++ .ref x :: st) h := by
  intro H locs cells slots cl hI hL
  have hcl := hI.2.2.1
  have hsl := hI.2.2.2.1
  obtain ⟨f1, f2, f3, f4, f5, f6, f7, f8, f9, f10⟩ := am_yok_inv hy
  rw [if_neg (by rw [hst]; decide)] at f3
  unfold am_Ms at hct
  rw [hrn] at hct f1
  refine am_go (va_runIN (As := as.map (am_cv G)) (rest := st.map (am_cv G)) (cc := cc) (nL := ls.length) (Ts := []) (host := "CriersOffice") ⟨hx, hb, hml, ho, fun w hw => absurd hw List.not_mem_nil⟩ hct ⟨⟨⟨rfl, rfl, hf, hlo, am_ws1 rfl (fun a => hK.w f1 rfl a), List.mem_singleton.mpr rfl⟩, hK.w f1 rfl args, hK.w f2 rfl args, f5, fun sig hs => by rw [hs] at f7; exact (Option.some.inj f7).symm, hlink⟩, hnm, hK.w f3 rfl args⟩ ⟨am_blind G (.ref x :: as) h, am_pre hK hE hI (.ref x :: as)⟩ rfl (by rw [List.length_map, hn]) hL.1 (by simp [am_cv]) (lv_room (by rw [am_sum_cv]; exact hsum)) hd (by omega)) (fun vv st₀ t L h0 hq hL2 => ?_)
  obtain ⟨rfl, hI2⟩ := am_after hI hE hmo h0 hq hL2
  rw [am_vst]
  exact K _ _ _ _ cl hI2 hL
end AMR
