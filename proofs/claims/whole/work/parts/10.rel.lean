/-! what the small machine's cells and frames are in the big one -/
abbrev am_G : Type := (Nat × Nat × Nat × Nat) × (Nat × (Nat → Int32)) × va_G × (Nat → ClassId)
def am_ad (G : am_G) (k : Nat) : Nat := match k with
  | 0 => G.1.2.1
  | 1 => G.1.2.2.1
  | 2 => G.1.2.2.2
  | j + 3 => G.1.1 + j
def am_cv (G : am_G) (v : Value) : Value := match v with
  | .ref k => .ref (am_ad G k)
  | .int x => .int x
  | .long x => .long x
  | .float x => .float x
  | .double x => .double x
  | .null => .null
  | .retAddr x => .retAddr x
theorem am_cv_cat (G : am_G) (v : Value) : (am_cv G v).category = v.category := by cases v <;> rfl
def am_ca (G : am_G) (a : vp_A) : vp_A := (a.1, match a.2 with
  | .inl f => .inl f
  | .inr (.inl f) => .inr (.inl f)
  | .inr (.inr (.inl f)) => .inr (.inr (.inl f))
  | .inr (.inr (.inr (.inl f))) => .inr (.inr (.inr (.inl f)))
  | .inr (.inr (.inr (.inr f))) => .inr (.inr (.inr (.inr (fun j => (f j).map (am_ad G))))))
def am_cc (G : am_G) (c : am_C) : va_E := match c with
  | .inl x => .inl (G.2.2.2 x.1, am_ca G x.2)
  | .inr x => .inr (x.1, x.2.map (am_cv G))
def am_ws (G : am_G) (h : am_H) : va_W := (h.drop 3).zipIdx.map (fun q => (G.1.1 + q.2, am_cc G q.1))
def am_ext (G : am_G) : am_H := [.inl (9, G.2.1.1, .inl G.2.1.2), .inl (8, 0, .inr (.inr (.inr (.inr (fun _ => none))))), .inr (99, [])]
def am_A (G : am_G) : Nat → Prop := fun q => G.1.1 ≤ q
def am_tys (G : am_G) : List (ClassId × FieldType) := [(G.2.2.2 0, .int), (G.2.2.2 1, .byte), (G.2.2.2 2, .boolean), (G.2.2.2 3, .object "java/lang/Object"), (G.2.2.2 4, .object RX6)]
def am_P (G : am_G) (h : am_H) (H : Heap) : Prop := va_P G.2.2.1 vwCl (am_ws G h) H ∧ h.take 3 = am_ext G ∧ H.size + 3 = G.1.1 + h.length
theorem am_ws_get {G : am_G} {h : am_H} {k : Nat} {c : am_C} (hk : h[k + 3]? = some c) : (am_ws G h)[k]? = some (G.1.1 + k, am_cc G c) := by
  have e : (3 + k) = k + 3 := Nat.add_comm 3 k
  simp [am_ws, List.getElem?_zipIdx, List.getElem?_drop, e, hk]
theorem am_ws_len (G : am_G) (h : am_H) : (am_ws G h).length = h.length - 3 := by simp [am_ws]
theorem am_ws_inv {G : am_G} {h : am_H} {k : Nat} {q : Nat × va_E} (hk : (am_ws G h)[k]? = some q) : ∃ c, h[k + 3]? = some c ∧ q = (G.1.1 + k, am_cc G c) := by
  have e : (3 + k) = k + 3 := Nat.add_comm 3 k
  have hl : k < (am_ws G h).length := (List.getElem?_eq_some_iff.mp hk).1
  rw [am_ws_len] at hl
  have h2 : k + 3 < h.length := by omega
  refine ⟨h[k + 3], List.getElem?_eq_getElem h2, ?_⟩
  rw [am_ws_get (List.getElem?_eq_getElem h2)] at hk
  exact (Option.some.inj hk).symm
theorem am_ws_set (G : am_G) (h : am_H) (k : Nat) (c : am_C) : (am_ws G h).set k (G.1.1 + k, am_cc G c) = am_ws G (h.set (k + 3) c) := by
  apply List.ext_getElem?
  intro j
  by_cases hj : k = j
  · subst hj
    by_cases hl : k + 3 < h.length
    · rw [List.getElem?_set_self (by rw [am_ws_len]; omega), am_ws_get (c := c) (by rw [List.getElem?_set_self hl])]
    · rw [List.getElem?_eq_none (by rw [List.length_set, am_ws_len]; omega), List.getElem?_eq_none (by rw [am_ws_len, List.length_set]; omega)]
  · rw [List.getElem?_set_ne hj]
    by_cases hl : j + 3 < h.length
    · rw [am_ws_get (List.getElem?_eq_getElem hl), am_ws_get (c := h[j + 3]) (by rw [List.getElem?_set_ne (by omega), List.getElem?_eq_getElem hl])]
    · rw [List.getElem?_eq_none (by rw [am_ws_len]; omega), List.getElem?_eq_none (by rw [am_ws_len, List.length_set]; omega)]
theorem am_ws_push (G : am_G) {h : am_H} (h3 : 3 ≤ h.length) (c : am_C) : am_ws G (h ++ [c]) = am_ws G h ++ [(G.1.1 + (h.length - 3), am_cc G c)] := by
  simp [am_ws, List.drop_append_of_le_length h3, List.zipIdx_append]
theorem am_D (G : am_G) (h : am_H) : va_D (am_A G) (am_ws G h) := by
  refine ⟨fun i j p q hi hj e => ?_, fun k q hk => ?_⟩
  · obtain ⟨c1, -, rfl⟩ := am_ws_inv hi
    obtain ⟨c2, -, rfl⟩ := am_ws_inv hj
    exact Nat.add_left_cancel e
  · obtain ⟨c1, -, rfl⟩ := am_ws_inv hk
    exact Nat.le_add_right _ _
/-- how many slots a cell takes -/
def am_sl (c : am_C) : Nat := match c with
  | .inl x => x.2.1
  | .inr x => x.2.length
def am_sz (h : am_H) : Nat := (h.map am_sl).sum
theorem am_sz_set {c' : am_C} : ∀ {h : am_H} {k : Nat} {c : am_C}, h[k]? = some c → am_sl c' = am_sl c → am_sz (h.set k c') = am_sz h
  | [], k, c, hk, _ => by simp at hk
  | a :: t, 0, c, hk, e => by
    have : a = c := by simpa using hk
    subst this
    simp [am_sz, e]
  | a :: t, k + 1, c, hk, e => by
    have ih := am_sz_set (h := t) (k := k) (c := c) (by simpa using hk) e
    simp only [am_sz] at ih ⊢
    rw [List.map_set] at ih
    simp [ih]
theorem am_sz_push (h : am_H) (c : am_C) : am_sz (h ++ [c]) = am_sz h + am_sl c := by simp [am_sz]
/-- the words that stay true, and what the tables say -/
def am_kw (w : Jvm.Cond) : Bool := goodWord w || (match w with
  | .fieldLinkNest .. => true
  | .methodLinkNest .. => true
  | .castable .. => true
  | .declares _ => true
  | .arrayOver (.object _) => true
  | _ => false)
def am_K (G : am_G) (U : State) : Prop := (∀ w ∈ lw_tbl, am_kw w = true → ∀ a : Array Value, w.before a U = true) ∧ va_K G.2.2.1 vwCl (am_tys G) U ∧ va_Mi "[Ljava/lang/Object;" G.1.2.2.2 U
theorem am_wmv {s U : State} (hW : s.WarmedH U.vm) {w : Jvm.Cond} (hk : am_kw w = true) (hb : ∀ a : Array Value, w.before a s = true) (a : Array Value) : w.before a U = true := by
  by_cases hg : goodWord w = true
  · exact word_at (args := #[]) hW (good_of_word hg) (hb #[])
  · cases w with
    | fieldLinkNest => exact va_Nw.use rfl (va_Nw.warmF hW (hb #[]))
    | methodLinkNest => exact va_Nw.use rfl (va_Nw.warmM hW (hb #[]))
    | castable => exact va_Nw.use rfl (va_Nw.warmC hW (hb #[]))
    | declares => exact va_Nw.use rfl (va_Nw.warmD hW (hb #[]))
    | arrayOver ty =>
      cases ty with
      | object C => exact va_AO.use (va_AO.moved hW.alike (va_AO.of (hb #[])))
      | _ => exact absurd (by simpa [am_kw] using hk) hg
    | _ => exact absurd (by simpa [am_kw] using hk) hg
theorem am_K.mv {G : am_G} {s U : State} (hW : s.WarmedH U.vm) (h : am_K G s) : am_K G U :=
  ⟨fun w hw hk a => am_wmv hW hk (h.1 w hw hk) a, va_K.moved hW.alike h.2.1, va_Mi.moved hW.alike h.2.2⟩
theorem am_K.w {G : am_G} {s : State} (h : am_K G s) {q : Nat} {w : Jvm.Cond} (hq : am_w q w = true) (hk : am_kw w = true) (a : Array Value) : w.before a s = true :=
  h.1 w (List.mem_of_getElem? (of_decide_eq_true hq)) hk a
def am_E (G : am_G) (U : State) : Prop := (G.1.2.1 < G.1.1 ∧ G.1.2.2.1 < G.1.1 ∧ G.1.1 ≤ U.heap.size) ∧ va_X G.1.2.1 G.2.1.1 G.2.1.2 U U.heap ∧ va_Z RJx4a65c "DEFAULTCAPACITY_EMPTY_ELEMENTDATA" "[Ljava/lang/Object;" (.ref G.1.2.2.1) (am_A G) U U.heap ∧ va_T (.object "java/lang/Object") G.1.2.2.1 0 (fun _ => .null) (am_A G) U U.heap
theorem am_E.mv {G : am_G} {s U : State} {locs : List Loc} (hW : s.WarmedH U.vm) (hS : va_S (am_A G) s.heap U.heap locs) (h : am_E G s) : am_E G U := by
  obtain ⟨⟨h1, h2, h3⟩, h4, h5, h6⟩ := h
  exact ⟨⟨h1, h2, Nat.le_trans h3 hS.1⟩, (h4.moved hW.alike).kept (hS.2.1 _ (Nat.lt_of_lt_of_le h1 h3) (Nat.not_le.mpr h1)), (h5.moved hW.alike).kept hS.2.1, (h6.moved hW.alike).kept hS.2.1⟩
/-- a frame's locals -/
def am_LV (G : am_G) (c : Array Slot) (ls : am_L) : Prop := c.size = ls.length ∧ lv_wf c ∧ ∀ (i : Nat) (v : Value), ls[i]? = some (some v) → c[i]? = some (.val (am_cv G v))
def am_pr (G : am_G) (ls : am_L) : List (Nat × Value) := ls.zipIdx.filterMap (fun q => q.1.map (fun v => (q.2, am_cv G v)))
theorem am_pr_mem {G : am_G} {ls : am_L} {i : Nat} {v : Value} (h : ls[i]? = some (some v)) : (i, am_cv G v) ∈ am_pr G ls := by
  refine List.mem_filterMap.mpr ⟨(some v, i), ?_, rfl⟩
  exact List.mem_of_getElem? (i := i) (by simp [List.getElem?_zipIdx, h])
theorem am_pr_inv {G : am_G} {ls : am_L} {q : Nat × Value} (h : q ∈ am_pr G ls) : ∃ v, ls[q.1]? = some (some v) ∧ q.2 = am_cv G v := by
  obtain ⟨⟨o, i⟩, h1, h2⟩ := List.mem_filterMap.mp h
  cases o with
  | none => simp at h2
  | some v =>
    have e : (i, am_cv G v) = q := by simpa using h2
    subst e
    exact ⟨v, by simpa using List.mem_zipIdx_iff_getElem?.mp h1, rfl⟩
theorem am_LV.has {G : am_G} {c : Array Slot} {ls : am_L} (h : am_LV G c ls) : lv_has c ls.length (am_pr G ls) := by
  refine ⟨h.1, h.2.1, fun q hq => ?_⟩
  obtain ⟨v, h1, h2⟩ := am_pr_inv hq
  rw [h2]
  exact h.2.2 _ _ h1
theorem am_st1_inv {ls ls' : am_L} {i : Nat} {v : Value} (h : am_st1 ls i v = some ls') : i < ls.length ∧ am_pv ls i = true ∧ ls' = ls.set i (some v) := by
  unfold am_st1 at h
  split at h
  · rename_i hc
    exact ⟨hc.1, hc.2, (Option.some.inj h).symm⟩
  · cases h
theorem am_st2_inv {ls ls' : am_L} {i : Nat} {v : Value} (h : am_st2 ls i v = some ls') : i + 1 < ls.length ∧ am_pv ls i = true ∧ ls' = (ls.set i (some v)).set (i + 1) none := by
  unfold am_st2 at h
  split at h
  · rename_i hc
    exact ⟨hc.1, hc.2, (Option.some.inj h).symm⟩
  · cases h
theorem am_pv_cat {ls : am_L} {j : Nat} {w : Value} (h : am_pv ls (j + 1) = true) (hj : ls[j]? = some (some w)) : w.category = 1 := by
  simp only [am_pv, hj] at h
  exact eq_of_beq h
theorem am_LV.s1 {G : am_G} {c' : Array Slot} {ls ls' : am_L} {i : Nat} {v : Value} (hs : am_st1 ls i v = some ls') (h : lv_has c' ls.length ((i, am_cv G v) :: (am_pr G ls).filter (fun q => !(q.1 == i) && !(q.1 + 1 == i && q.2.category == 2)))) : am_LV G c' ls' := by
  obtain ⟨hi, hp, rfl⟩ := am_st1_inv hs
  refine ⟨by rw [List.length_set]; exact h.1, h.2.1, fun j w hj => ?_⟩
  by_cases e : i = j
  · subst e
    rw [List.getElem?_set_self hi] at hj
    have : v = w := by simpa using hj
    subst this
    exact h.2.2 _ List.mem_cons_self
  · rw [List.getElem?_set_ne e] at hj
    refine h.2.2 (j, am_cv G w) (List.mem_cons_of_mem _ (List.mem_filter.mpr ⟨am_pr_mem hj, ?_⟩))
    have h1 : (j == i) = false := by simpa using fun q => e q.symm
    by_cases e2 : j + 1 = i
    · subst e2
      have := am_pv_cat hp hj
      simp [am_cv_cat, this]
    · have h2 : (j + 1 == i) = false := by simpa using e2
      simp [h1, h2]
theorem am_LV.s2 {G : am_G} {c' : Array Slot} {ls ls' : am_L} {i : Nat} {v : Value} (hs : am_st2 ls i v = some ls') (h : lv_has c' ls.length ((i, am_cv G v) :: (am_pr G ls).filter (fun q => !(q.1 == i) && (!(q.1 == i + 1) && !(q.1 + 1 == i && q.2.category == 2))))) : am_LV G c' ls' := by
  obtain ⟨hi, hp, rfl⟩ := am_st2_inv hs
  refine ⟨by rw [List.length_set, List.length_set]; exact h.1, h.2.1, fun j w hj => ?_⟩
  by_cases e3 : i + 1 = j
  · subst e3
    rw [List.getElem?_set_self (by rw [List.length_set]; exact hi)] at hj
    cases hj
  rw [List.getElem?_set_ne e3] at hj
  by_cases e : i = j
  · subst e
    rw [List.getElem?_set_self (by omega)] at hj
    have : v = w := by simpa using hj
    subst this
    exact h.2.2 _ List.mem_cons_self
  · rw [List.getElem?_set_ne e] at hj
    refine h.2.2 (j, am_cv G w) (List.mem_cons_of_mem _ (List.mem_filter.mpr ⟨am_pr_mem hj, ?_⟩))
    have h1 : (j == i) = false := by simpa using fun q => e q.symm
    have h3 : (j == i + 1) = false := by simpa using fun q => e3 q.symm
    by_cases e2 : j + 1 = i
    · subst e2
      have := am_pv_cat hp hj
      have h5 : ¬ j = j + 1 + 1 := by omega
      simp [am_cv_cat, this, h5]
    · have h2 : (j + 1 == i) = false := by simpa using e2
      simp [h1, h2, h3]
theorem am_ent_args (G : am_G) : ∀ (as : List Value) (k i : Nat) (v : Value), (am_ent as)[i]? = some (some v) → (k + i, am_cv G v) ∈ lv_args k (as.map (am_cv G))
  | [], k, i, v, h => by simp [am_ent] at h
  | a :: t, k, i, v, h => by
    have ih := am_ent_args G t
    have e : am_ent (a :: t) = (if a.category = 2 then [some a, none] else [some a]) ++ am_ent t := rfl
    rw [e] at h
    simp only [List.map_cons, lv_args, am_cv_cat]
    by_cases hc : a.category = 2
    · rw [if_pos hc] at h ⊢
      match i, h with
      | 0, h =>
        have : a = v := by simpa using h
        subst this
        exact List.mem_cons_self
      | 1, h => simp at h
      | i + 2, h =>
        have h2 := ih (k + 2) i v (by simpa using h)
        rw [show k + (i + 2) = k + 2 + i by omega]
        exact List.mem_cons_of_mem _ h2
    · rw [if_neg hc] at h ⊢
      match i, h with
      | 0, h =>
        have : a = v := by simpa using h
        subst this
        exact List.mem_cons_self
      | i + 1, h =>
        have h2 := ih (k + 1) i v (by simpa using h)
        rw [show k + (i + 1) = k + 1 + i by omega]
        exact List.mem_cons_of_mem _ h2
theorem am_ent_len (G : am_G) (as : List Value) : (lg_sl (as.map (am_cv G))).length = (am_ent as).length := by
  induction as with
  | nil => rfl
  | cons a t ih =>
    have e1 : am_ent (a :: t) = (if a.category = 2 then [some a, none] else [some a]) ++ am_ent t := rfl
    have e2 : lg_sl ((a :: t).map (am_cv G)) = (if (am_cv G a).category = 2 then [Slot.val (am_cv G a), .second] else [.val (am_cv G a)]) ++ lg_sl (t.map (am_cv G)) := rfl
    rw [e1, e2, am_cv_cat, List.length_append, List.length_append, ih]
    by_cases hc : a.category = 2
    · simp [hc]
    · simp [hc]
theorem am_LV.entry (G : am_G) (as : List Value) {n : Nat} (h : (am_ent as).length ≤ n) : am_LV G ((lg_sl (as.map (am_cv G)) ++ List.replicate (n - (lg_sl (as.map (am_cv G))).length) Slot.unset).toArray) (am_pad n (am_ent as)) := by
  have h0 := lv_entry (as.map (am_cv G)) (n := n) (by rw [am_ent_len]; exact h)
  refine ⟨by rw [h0.1]; simp [am_pad]; omega, h0.2.1, fun i v hi => ?_⟩
  by_cases hl : i < (am_ent as).length
  · unfold am_pad at hi
    rw [List.getElem?_append_left hl] at hi
    have := am_ent_args G as 0 i v hi
    rw [Nat.zero_add] at this
    exact h0.2.2 _ this
  · unfold am_pad at hi
    rw [List.getElem?_append_right (by omega), List.getElem?_replicate] at hi
    split at hi <;> cases hi
