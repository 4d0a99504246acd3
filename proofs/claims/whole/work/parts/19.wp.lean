/-! rules for runs of the small machine, goal first -/
def am_wp (mi : Nat) (fr : am_F) (h : am_H) (Q : Option Value → am_H → Prop) : Prop := ∃ f v h', am_run f mi fr h = some (v, h') ∧ Q v h'
def am_ev (mj : Nat) (as : List Value) (h : am_H) (Q : Option Value → am_H → Prop) : Prop := am_wp mj (am_en mj as) h Q
/-- a method that reads alone, and its answer -/
def am_rd (mj : Nat) (as : List Value) (h : am_H) (r : Value) : Prop := am_ev mj as h (fun v h' => v = some r ∧ h' = h)
theorem am_run_s : ∀ (f : Nat) {mi : Nat} {fr : am_F} {h : am_H} {w : Option Value × am_H}, am_run f mi fr h = some w → am_run (f + 1) mi fr h = some w
  | 0, _, _, _, _, e => by cases e
  | f + 1, mi, fr, h, w, e => by
    rw [am_run] at e ⊢
    split at e
    · cases e
    · rename_i M hM
      split at e
      · cases e
      · rename_i r hr
        split at e
        · cases e
        · rename_i q hq
          exact am_run_s f e
        · exact e
        · rename_i q hq
          split at e
          · cases e
          · rename_i w2 hw2
            rw [am_run_s f hw2]
            exact am_run_s f e
theorem am_run_le {f g : Nat} (hfg : f ≤ g) {mi : Nat} {fr : am_F} {h : am_H} {w : Option Value × am_H} (e : am_run f mi fr h = some w) : am_run g mi fr h = some w := by
  induction hfg with
  | refl => exact e
  | step _ ih => exact am_run_s _ ih
theorem am_wp.mp {mi : Nat} {fr : am_F} {h : am_H} {Q Q' : Option Value → am_H → Prop} (w : am_wp mi fr h Q) (k : ∀ v h', Q v h' → Q' v h') : am_wp mi fr h Q' := by
  obtain ⟨f, v, h', e, q⟩ := w
  exact ⟨f, v, h', e, k v h' q⟩
theorem am_wn {mi : Nat} {M : am_M} {r : am_R} {pc : Nat} {ls : am_L} {st : List Value} {h : am_H} {q : am_F × am_H} {Q : Option Value → am_H → Prop} (hM : am_mt[mi]? = some M) (hr : am_fe M.2.2.2.2.2.2 pc = some r) (hs : am_step M r pc ls st h = some (.inl q)) (w : am_wp mi q.1 q.2 Q) : am_wp mi (pc, ls, st) h Q := by
  obtain ⟨f, v, h', e, k⟩ := w
  refine ⟨f + 1, v, h', ?_, k⟩
  rw [am_run, hM]
  simp only [hr, hs]
  exact e
theorem am_wr {mi : Nat} {M : am_M} {r : am_R} {pc : Nat} {ls : am_L} {st : List Value} {h : am_H} {v : Option Value} {Q : Option Value → am_H → Prop} (hM : am_mt[mi]? = some M) (hr : am_fe M.2.2.2.2.2.2 pc = some r) (hs : am_step M r pc ls st h = some (.inr (.inl v))) (w : Q v h) : am_wp mi (pc, ls, st) h Q := by
  refine ⟨1, v, h, ?_, w⟩
  rw [am_run, hM]
  simp only [hr, hs]
theorem am_wc {mi : Nat} {M : am_M} {r : am_R} {pc : Nat} {ls : am_L} {st : List Value} {h : am_H} {q : Nat × List Value × am_F} {Q Q1 : Option Value → am_H → Prop} (hM : am_mt[mi]? = some M) (hr : am_fe M.2.2.2.2.2.2 pc = some r) (hs : am_step M r pc ls st h = some (.inr (.inr q))) (w : am_ev q.1 q.2.1 h Q1) (k : ∀ v h', Q1 v h' → am_wp mi (q.2.2.1, q.2.2.2.1, v.toList ++ q.2.2.2.2) h' Q) : am_wp mi (pc, ls, st) h Q := by
  obtain ⟨f1, v1, h1, e1, k1⟩ := w
  obtain ⟨f2, v2, h2, e2, k2⟩ := k v1 h1 k1
  refine ⟨max f1 f2 + 1, v2, h2, ?_, k2⟩
  rw [am_run, hM]
  simp only [hr, hs]
  rw [am_run_le (Nat.le_max_left f1 f2) e1]
  exact am_run_le (Nat.le_max_right f1 f2) e2
/-- what stands at a place, and the place behind it -/
def am_S (mi pc pc' : Nat) (r : am_R) : Prop := am_at mi pc = some r ∧ pc' = pc + am_len r.1
theorem am_S.m {mi pc pc' : Nat} {r : am_R} (h : am_S mi pc pc' r) : ∃ M, am_mt[mi]? = some M ∧ am_fe M.2.2.2.2.2.2 pc = some r := by
  have h1 := h.1
  unfold am_at at h1
  split at h1
  · rename_i M hM
    exact ⟨M, hM, h1⟩
  · cases h1
theorem am_S.n {mi pc pc' : Nat} {r : am_R} {ls ls' : am_L} {st st' : List Value} {h h' : am_H} {Q : Option Value → am_H → Prop} (hf : am_S mi pc pc' r) (hs : ∀ M, am_step M r pc ls st h = some (.inl ((pc + am_len r.1, ls', st'), h'))) (w : am_wp mi (pc', ls', st') h' Q) : am_wp mi (pc, ls, st) h Q := by
  obtain ⟨M, hM, hr⟩ := hf.m
  rw [hf.2] at w
  exact am_wn hM hr (hs M) w
def am_bi (b : Bool) : Int32 := if b = true then 1 else 0
section AMW
variable {mi pc pc' t a b q : Nat} {z : Int} {ls ls' : am_L} {st : List Value} {h : am_H} {Q : Option Value → am_H → Prop}
theorem w_iconst {n : Int} {v : Int32} (hf : am_S mi pc pc' (.iconst n, a, b, q, z)) (hv : Int32.ofInt n = v) (k : am_wp mi (pc', ls, .int v :: st) h Q) : am_wp mi (pc, ls, st) h Q := hf.n (fun _ => by subst hv; rfl) k
theorem w_bipush {n : Int} {v : Int32} (hf : am_S mi pc pc' (.bipush n, a, b, q, z)) (hv : (Int8.ofInt n).toInt32 = v) (k : am_wp mi (pc', ls, .int v :: st) h Q) : am_wp mi (pc, ls, st) h Q := hf.n (fun _ => by subst hv; rfl) k
theorem w_sipush {n : Int} {v : Int32} (hf : am_S mi pc pc' (.sipush n, a, b, q, z)) (hv : (Int16.ofInt n).toInt32 = v) (k : am_wp mi (pc', ls, .int v :: st) h Q) : am_wp mi (pc, ls, st) h Q := hf.n (fun _ => by subst hv; rfl) k
theorem w_lconst {n : Fin 2} {v : Int64} (hf : am_S mi pc pc' (.lconst n, a, b, q, z)) (hv : Int64.ofNat (n : Nat) = v) (k : am_wp mi (pc', ls, .long v :: st) h Q) : am_wp mi (pc, ls, st) h Q := hf.n (fun _ => by subst hv; rfl) k
theorem w_null  (hf : am_S mi pc pc' (.aconst_null, a, b, q, z))  (k : am_wp mi (pc', ls, .null :: st) h Q) : am_wp mi (pc, ls, st) h Q := hf.n (fun _ => rfl) k
theorem w_ldc {i : Nat} {v : Int32} (hf : am_S mi pc pc' (.ldc i, 0, b, q, z)) (hv : Int32.ofInt z = v) (k : am_wp mi (pc', ls, .int v :: st) h Q) : am_wp mi (pc, ls, st) h Q := hf.n (fun _ => by subst hv; rfl) k
theorem w_ldcM {i : Nat} (hf : am_S mi pc pc' (.ldc i, 1, b, q, z)) (k : am_wp mi (pc', ls, .ref 2 :: st) h Q) : am_wp mi (pc, ls, st) h Q := hf.n (fun _ => rfl) k
theorem w_ldcw {i : Nat} {v : Int32} (hf : am_S mi pc pc' (.ldc_w i, 0, b, q, z)) (hv : Int32.ofInt z = v) (k : am_wp mi (pc', ls, .int v :: st) h Q) : am_wp mi (pc, ls, st) h Q := hf.n (fun _ => by subst hv; rfl) k
theorem w_ldc2 {i : Nat} {v : Int64} (hf : am_S mi pc pc' (.ldc2_w i, a, b, q, z)) (hv : Int64.ofInt z = v) (k : am_wp mi (pc', ls, .long v :: st) h Q) : am_wp mi (pc, ls, st) h Q := hf.n (fun _ => by subst hv; rfl) k
theorem w_iload_n {n : Fin 4} {x : Int32} (hf : am_S mi pc pc' (.iload_n n, a, b, q, z)) (hl : ls[(n : Nat)]? = some (some (.int x))) (k : am_wp mi (pc', ls, .int x :: st) h Q) : am_wp mi (pc, ls, st) h Q := hf.n (fun _ => by show am_ldI (pc + 1) n ls st h = _; unfold am_ldI; rw [hl]; rfl) k
theorem w_iload {n : Nat} {x : Int32} (hf : am_S mi pc pc' (.iload n, a, b, q, z)) (hl : ls[n]? = some (some (.int x))) (k : am_wp mi (pc', ls, .int x :: st) h Q) : am_wp mi (pc, ls, st) h Q := hf.n (fun _ => by show am_ldI (pc + 2) n ls st h = _; unfold am_ldI; rw [hl]; rfl) k
theorem w_istore_n {n : Fin 4} {x : Int32} (hf : am_S mi pc pc' (.istore_n n, a, b, q, z)) (hs : am_st1 ls n (.int x) = some ls') (k : am_wp mi (pc', ls', st) h Q) : am_wp mi (pc, ls, .int x :: st) h Q := hf.n (fun _ => by show am_stI (pc + 1) n ls (.int x :: st) h = _; unfold am_stI; simp only [hs]; rfl) k
theorem w_istore {n : Nat} {x : Int32} (hf : am_S mi pc pc' (.istore n, a, b, q, z)) (hs : am_st1 ls n (.int x) = some ls') (k : am_wp mi (pc', ls', st) h Q) : am_wp mi (pc, ls, .int x :: st) h Q := hf.n (fun _ => by show am_stI (pc + 2) n ls (.int x :: st) h = _; unfold am_stI; simp only [hs]; rfl) k
theorem w_lload_n {n : Fin 4} {x : Int64} (hf : am_S mi pc pc' (.lload_n n, a, b, q, z)) (hl : ls[(n : Nat)]? = some (some (.long x))) (k : am_wp mi (pc', ls, .long x :: st) h Q) : am_wp mi (pc, ls, st) h Q := hf.n (fun _ => by show am_ldL (pc + 1) n ls st h = _; unfold am_ldL; rw [hl]; rfl) k
theorem w_lload {n : Nat} {x : Int64} (hf : am_S mi pc pc' (.lload n, a, b, q, z)) (hl : ls[n]? = some (some (.long x))) (k : am_wp mi (pc', ls, .long x :: st) h Q) : am_wp mi (pc, ls, st) h Q := hf.n (fun _ => by show am_ldL (pc + 2) n ls st h = _; unfold am_ldL; rw [hl]; rfl) k
theorem w_lstore_n {n : Fin 4} {x : Int64} (hf : am_S mi pc pc' (.lstore_n n, a, b, q, z)) (hs : am_st2 ls n (.long x) = some ls') (k : am_wp mi (pc', ls', st) h Q) : am_wp mi (pc, ls, .long x :: st) h Q := hf.n (fun _ => by show am_stL (pc + 1) n ls (.long x :: st) h = _; unfold am_stL; simp only [hs]; rfl) k
theorem w_lstore {n : Nat} {x : Int64} (hf : am_S mi pc pc' (.lstore n, a, b, q, z)) (hs : am_st2 ls n (.long x) = some ls') (k : am_wp mi (pc', ls', st) h Q) : am_wp mi (pc, ls, .long x :: st) h Q := hf.n (fun _ => by show am_stL (pc + 2) n ls (.long x :: st) h = _; unfold am_stL; simp only [hs]; rfl) k
theorem w_aload_n {n : Fin 4} {x : Nat} (hf : am_S mi pc pc' (.aload_n n, a, b, q, z)) (hl : ls[(n : Nat)]? = some (some (.ref x))) (k : am_wp mi (pc', ls, .ref x :: st) h Q) : am_wp mi (pc, ls, st) h Q := hf.n (fun _ => by show am_ldA (pc + 1) n ls st h = _; unfold am_ldA; rw [hl]; rfl) k
theorem w_aload {n : Nat} {x : Nat} (hf : am_S mi pc pc' (.aload n, a, b, q, z)) (hl : ls[n]? = some (some (.ref x))) (k : am_wp mi (pc', ls, .ref x :: st) h Q) : am_wp mi (pc, ls, st) h Q := hf.n (fun _ => by show am_ldA (pc + 2) n ls st h = _; unfold am_ldA; rw [hl]; rfl) k
theorem w_astore_n {n : Fin 4} {x : Nat} (hf : am_S mi pc pc' (.astore_n n, a, b, q, z)) (hs : am_st1 ls n (.ref x) = some ls') (k : am_wp mi (pc', ls', st) h Q) : am_wp mi (pc, ls, .ref x :: st) h Q := hf.n (fun _ => by show am_stA (pc + 1) n ls (.ref x :: st) h = _; unfold am_stA; simp only [hs]; rfl) k
theorem w_astore {n : Nat} {x : Nat} (hf : am_S mi pc pc' (.astore n, a, b, q, z)) (hs : am_st1 ls n (.ref x) = some ls') (k : am_wp mi (pc', ls', st) h Q) : am_wp mi (pc, ls, .ref x :: st) h Q := hf.n (fun _ => by show am_stA (pc + 2) n ls (.ref x :: st) h = _; unfold am_stA; simp only [hs]; rfl) k
theorem w_iinc {i : Nat} {n : Int} {x v : Int32} (hf : am_S mi pc pc' (.iinc i n, a, b, q, z)) (hl : ls[i]? = some (some (.int x))) (hv : x + Int32.ofInt n = v) (hs : am_st1 ls i (.int v) = some ls') (k : am_wp mi (pc', ls', st) h Q) : am_wp mi (pc, ls, st) h Q := hf.n (fun _ => by subst hv; show am_inc (pc + 3) i n ls st h = _; unfold am_inc; rw [hl]; simp only [hs]; rfl) k
theorem w_iadd {x y v : Int32} (hf : am_S mi pc pc' (.iadd, a, b, q, z)) (hv : x + y = v) (k : am_wp mi (pc', ls, .int v :: st) h Q) : am_wp mi (pc, ls, .int y :: .int x :: st) h Q := hf.n (fun _ => by subst hv; rfl) k
theorem w_isub {x y v : Int32} (hf : am_S mi pc pc' (.isub, a, b, q, z)) (hv : x - y = v) (k : am_wp mi (pc', ls, .int v :: st) h Q) : am_wp mi (pc, ls, .int y :: .int x :: st) h Q := hf.n (fun _ => by subst hv; rfl) k
theorem w_imul {x y v : Int32} (hf : am_S mi pc pc' (.imul, a, b, q, z)) (hv : x * y = v) (k : am_wp mi (pc', ls, .int v :: st) h Q) : am_wp mi (pc, ls, .int y :: .int x :: st) h Q := hf.n (fun _ => by subst hv; rfl) k
theorem w_iand {x y v : Int32} (hf : am_S mi pc pc' (.iand, a, b, q, z)) (hv : x &&& y = v) (k : am_wp mi (pc', ls, .int v :: st) h Q) : am_wp mi (pc, ls, .int y :: .int x :: st) h Q := hf.n (fun _ => by subst hv; rfl) k
theorem w_ior {x y v : Int32} (hf : am_S mi pc pc' (.ior, a, b, q, z)) (hv : x ||| y = v) (k : am_wp mi (pc', ls, .int v :: st) h Q) : am_wp mi (pc, ls, .int y :: .int x :: st) h Q := hf.n (fun _ => by subst hv; rfl) k
theorem w_ixor {x y v : Int32} (hf : am_S mi pc pc' (.ixor, a, b, q, z)) (hv : x ^^^ y = v) (k : am_wp mi (pc', ls, .int v :: st) h Q) : am_wp mi (pc, ls, .int y :: .int x :: st) h Q := hf.n (fun _ => by subst hv; rfl) k
theorem w_ishl {x y v : Int32} (hf : am_S mi pc pc' (.ishl, a, b, q, z)) (hv : x <<< (y &&& 31) = v) (k : am_wp mi (pc', ls, .int v :: st) h Q) : am_wp mi (pc, ls, .int y :: .int x :: st) h Q := hf.n (fun _ => by subst hv; rfl) k
theorem w_ishr {x y v : Int32} (hf : am_S mi pc pc' (.ishr, a, b, q, z)) (hv : x >>> (y &&& 31) = v) (k : am_wp mi (pc', ls, .int v :: st) h Q) : am_wp mi (pc, ls, .int y :: .int x :: st) h Q := hf.n (fun _ => by subst hv; rfl) k
theorem w_iushr {x y v : Int32} (hf : am_S mi pc pc' (.iushr, a, b, q, z)) (hv : (x.toUInt32 >>> (y.toUInt32 &&& Int32.toUInt32 31)).toInt32 = v) (k : am_wp mi (pc', ls, .int v :: st) h Q) : am_wp mi (pc, ls, .int y :: .int x :: st) h Q := hf.n (fun _ => by subst hv; rfl) k
theorem w_idiv {x y v : Int32} (hf : am_S mi pc pc' (.idiv, a, b, q, z)) (hy : ¬ y = 0) (hv : x / y = v) (k : am_wp mi (pc', ls, .int v :: st) h Q) : am_wp mi (pc, ls, .int y :: .int x :: st) h Q := hf.n (fun _ => by subst hv; show am_b2z (fun x y => x / y) pc ls (.int y :: .int x :: st) h = _; unfold am_b2z; simp only [if_neg hy]; rfl) k
theorem w_irem {x y v : Int32} (hf : am_S mi pc pc' (.irem, a, b, q, z)) (hy : ¬ y = 0) (hv : x - x / y * y = v) (k : am_wp mi (pc', ls, .int v :: st) h Q) : am_wp mi (pc, ls, .int y :: .int x :: st) h Q := hf.n (fun _ => by subst hv; show am_b2z (fun x y => x - x / y * y) pc ls (.int y :: .int x :: st) h = _; unfold am_b2z; simp only [if_neg hy]; rfl) k
theorem w_ineg {x v : Int32} (hf : am_S mi pc pc' (.ineg, a, b, q, z)) (hv : -x = v) (k : am_wp mi (pc', ls, .int v :: st) h Q) : am_wp mi (pc, ls, .int x :: st) h Q := hf.n (fun _ => by subst hv; rfl) k
theorem w_i2b {x v : Int32} (hf : am_S mi pc pc' (.i2b, a, b, q, z)) (hv : x.toInt8.toInt32 = v) (k : am_wp mi (pc', ls, .int v :: st) h Q) : am_wp mi (pc, ls, .int x :: st) h Q := hf.n (fun _ => by subst hv; rfl) k
theorem w_i2l {x : Int32} {v : Int64} (hf : am_S mi pc pc' (.i2l, a, b, q, z)) (hv : x.toInt64 = v) (k : am_wp mi (pc', ls, .long v :: st) h Q) : am_wp mi (pc, ls, .int x :: st) h Q := hf.n (fun _ => by subst hv; rfl) k
theorem w_ladd {x y v : Int64} (hf : am_S mi pc pc' (.ladd, a, b, q, z)) (hv : x + y = v) (k : am_wp mi (pc', ls, .long v :: st) h Q) : am_wp mi (pc, ls, .long y :: .long x :: st) h Q := hf.n (fun _ => by subst hv; rfl) k
theorem w_lmul {x y v : Int64} (hf : am_S mi pc pc' (.lmul, a, b, q, z)) (hv : x * y = v) (k : am_wp mi (pc', ls, .long v :: st) h Q) : am_wp mi (pc, ls, .long y :: .long x :: st) h Q := hf.n (fun _ => by subst hv; rfl) k
theorem w_lcmp {x y : Int64} (hf : am_S mi pc pc' (.lcmp, a, b, q, z))  (k : am_wp mi (pc', ls, .int (lg_cmp x y) :: st) h Q) : am_wp mi (pc, ls, .long y :: .long x :: st) h Q := hf.n (fun _ => rfl) k
theorem w_dup_i {x : Int32} (hf : am_S mi pc pc' (.dup, a, b, q, z))  (k : am_wp mi (pc', ls, .int x :: .int x :: st) h Q) : am_wp mi (pc, ls, .int x :: st) h Q := hf.n (fun _ => rfl) k
theorem w_pop_i {x : Int32} (hf : am_S mi pc pc' (.pop, a, b, q, z))  (k : am_wp mi (pc', ls, st) h Q) : am_wp mi (pc, ls, .int x :: st) h Q := hf.n (fun _ => rfl) k
theorem w_dup_r {x : Nat} (hf : am_S mi pc pc' (.dup, a, b, q, z))  (k : am_wp mi (pc', ls, .ref x :: .ref x :: st) h Q) : am_wp mi (pc, ls, .ref x :: st) h Q := hf.n (fun _ => rfl) k
theorem w_pop_r {x : Nat} (hf : am_S mi pc pc' (.pop, a, b, q, z))  (k : am_wp mi (pc', ls, st) h Q) : am_wp mi (pc, ls, .ref x :: st) h Q := hf.n (fun _ => rfl) k
theorem w_dup_x1_r {x y : Nat} (hf : am_S mi pc pc' (.dup_x1, a, b, q, z))  (k : am_wp mi (pc', ls, .ref x :: .ref y :: .ref x :: st) h Q) : am_wp mi (pc, ls, .ref x :: .ref y :: st) h Q := hf.n (fun _ => rfl) k
theorem w_dup2_ir {x : Int32} {y : Nat} (hf : am_S mi pc pc' (.dup2, a, b, q, z))  (k : am_wp mi (pc', ls, .int x :: .ref y :: .int x :: .ref y :: st) h Q) : am_wp mi (pc, ls, .int x :: .ref y :: st) h Q := hf.n (fun _ => rfl) k
theorem w_goto {off : Int} (hf : am_S mi pc pc' (.goto off, a, b, q, z)) (ht : am_tg pc off = some t) (k : am_wp mi (t, ls, st) h Q) : am_wp mi (pc, ls, st) h Q := by
  obtain ⟨M, hM, hr⟩ := hf.m
  refine am_wn hM hr (q := ((t, ls, st), h)) ?_ k
  show am_jp pc off ls st h = _
  unfold am_jp
  rw [ht]
  rfl
theorem w_br {c : Bool} {M : am_M} {r : am_R} {off : Int} {st0 : List Value} (hM : am_mt[mi]? = some M) (hr : am_fe M.2.2.2.2.2.2 pc = some r) (hs : am_step M r pc ls st0 h = am_br c pc off ls st h) (ht : am_tg pc off = some t) (kt : c = true → am_wp mi (t, ls, st) h Q) (kf : c = false → am_wp mi (pc + 3, ls, st) h Q) : am_wp mi (pc, ls, st0) h Q := by
  cases c with
  | true =>
    refine am_wn hM hr (q := ((t, ls, st), h)) ?_ (kt rfl)
    rw [hs]
    unfold am_br
    rw [ht]
    rfl
  | false =>
    refine am_wn hM hr (q := ((pc + 3, ls, st), h)) ?_ (kf rfl)
    rw [hs]
    unfold am_br
    rw [ht]
    rfl
theorem w_ifeq {off : Int} {x : Int32} (hf : am_S mi pc pc' (.ifCond .eq off, a, b, q, z)) (ht : am_tg pc off = some t) (kt : x = 0 → am_wp mi (t, ls, st) h Q) (kf : ¬ x = 0 → am_wp mi (pc', ls, st) h Q) : am_wp mi (pc, ls, .int x :: st) h Q := by
  obtain ⟨M, hM, hr⟩ := hf.m
  rw [hf.2] at kf
  exact w_br (c := am_cd .eq x 0) hM hr rfl ht (fun q => kt (of_decide_eq_true q)) (fun q => kf (of_decide_eq_false q))
theorem w_icmpeq {off : Int} {x y : Int32} (hf : am_S mi pc pc' (.if_icmp .eq off, a, b, q, z)) (ht : am_tg pc off = some t) (kt : x = y → am_wp mi (t, ls, st) h Q) (kf : ¬ x = y → am_wp mi (pc', ls, st) h Q) : am_wp mi (pc, ls, .int y :: .int x :: st) h Q := by
  obtain ⟨M, hM, hr⟩ := hf.m
  rw [hf.2] at kf
  exact w_br (c := am_cd .eq x y) hM hr rfl ht (fun q => kt (of_decide_eq_true q)) (fun q => kf (of_decide_eq_false q))
theorem w_ifne {off : Int} {x : Int32} (hf : am_S mi pc pc' (.ifCond .ne off, a, b, q, z)) (ht : am_tg pc off = some t) (kt : ¬ x = 0 → am_wp mi (t, ls, st) h Q) (kf : x = 0 → am_wp mi (pc', ls, st) h Q) : am_wp mi (pc, ls, .int x :: st) h Q := by
  obtain ⟨M, hM, hr⟩ := hf.m
  rw [hf.2] at kf
  exact w_br (c := am_cd .ne x 0) hM hr rfl ht (fun q => kt (of_decide_eq_true q)) (fun q => kf (Decidable.of_not_not (of_decide_eq_false q)))
theorem w_icmpne {off : Int} {x y : Int32} (hf : am_S mi pc pc' (.if_icmp .ne off, a, b, q, z)) (ht : am_tg pc off = some t) (kt : ¬ x = y → am_wp mi (t, ls, st) h Q) (kf : x = y → am_wp mi (pc', ls, st) h Q) : am_wp mi (pc, ls, .int y :: .int x :: st) h Q := by
  obtain ⟨M, hM, hr⟩ := hf.m
  rw [hf.2] at kf
  exact w_br (c := am_cd .ne x y) hM hr rfl ht (fun q => kt (of_decide_eq_true q)) (fun q => kf (Decidable.of_not_not (of_decide_eq_false q)))
theorem w_iflt {off : Int} {x : Int32} (hf : am_S mi pc pc' (.ifCond .lt off, a, b, q, z)) (ht : am_tg pc off = some t) (kt : x < 0 → am_wp mi (t, ls, st) h Q) (kf : ¬ x < 0 → am_wp mi (pc', ls, st) h Q) : am_wp mi (pc, ls, .int x :: st) h Q := by
  obtain ⟨M, hM, hr⟩ := hf.m
  rw [hf.2] at kf
  exact w_br (c := am_cd .lt x 0) hM hr rfl ht (fun q => kt (of_decide_eq_true q)) (fun q => kf (of_decide_eq_false q))
theorem w_icmplt {off : Int} {x y : Int32} (hf : am_S mi pc pc' (.if_icmp .lt off, a, b, q, z)) (ht : am_tg pc off = some t) (kt : x < y → am_wp mi (t, ls, st) h Q) (kf : ¬ x < y → am_wp mi (pc', ls, st) h Q) : am_wp mi (pc, ls, .int y :: .int x :: st) h Q := by
  obtain ⟨M, hM, hr⟩ := hf.m
  rw [hf.2] at kf
  exact w_br (c := am_cd .lt x y) hM hr rfl ht (fun q => kt (of_decide_eq_true q)) (fun q => kf (of_decide_eq_false q))
theorem w_ifge {off : Int} {x : Int32} (hf : am_S mi pc pc' (.ifCond .ge off, a, b, q, z)) (ht : am_tg pc off = some t) (kt : 0 ≤ x → am_wp mi (t, ls, st) h Q) (kf : ¬ 0 ≤ x → am_wp mi (pc', ls, st) h Q) : am_wp mi (pc, ls, .int x :: st) h Q := by
  obtain ⟨M, hM, hr⟩ := hf.m
  rw [hf.2] at kf
  exact w_br (c := am_cd .ge x 0) hM hr rfl ht (fun q => kt (of_decide_eq_true q)) (fun q => kf (of_decide_eq_false q))
theorem w_icmpge {off : Int} {x y : Int32} (hf : am_S mi pc pc' (.if_icmp .ge off, a, b, q, z)) (ht : am_tg pc off = some t) (kt : y ≤ x → am_wp mi (t, ls, st) h Q) (kf : ¬ y ≤ x → am_wp mi (pc', ls, st) h Q) : am_wp mi (pc, ls, .int y :: .int x :: st) h Q := by
  obtain ⟨M, hM, hr⟩ := hf.m
  rw [hf.2] at kf
  exact w_br (c := am_cd .ge x y) hM hr rfl ht (fun q => kt (of_decide_eq_true q)) (fun q => kf (of_decide_eq_false q))
theorem w_ifgt {off : Int} {x : Int32} (hf : am_S mi pc pc' (.ifCond .gt off, a, b, q, z)) (ht : am_tg pc off = some t) (kt : 0 < x → am_wp mi (t, ls, st) h Q) (kf : ¬ 0 < x → am_wp mi (pc', ls, st) h Q) : am_wp mi (pc, ls, .int x :: st) h Q := by
  obtain ⟨M, hM, hr⟩ := hf.m
  rw [hf.2] at kf
  exact w_br (c := am_cd .gt x 0) hM hr rfl ht (fun q => kt (of_decide_eq_true q)) (fun q => kf (of_decide_eq_false q))
theorem w_icmpgt {off : Int} {x y : Int32} (hf : am_S mi pc pc' (.if_icmp .gt off, a, b, q, z)) (ht : am_tg pc off = some t) (kt : y < x → am_wp mi (t, ls, st) h Q) (kf : ¬ y < x → am_wp mi (pc', ls, st) h Q) : am_wp mi (pc, ls, .int y :: .int x :: st) h Q := by
  obtain ⟨M, hM, hr⟩ := hf.m
  rw [hf.2] at kf
  exact w_br (c := am_cd .gt x y) hM hr rfl ht (fun q => kt (of_decide_eq_true q)) (fun q => kf (of_decide_eq_false q))
theorem w_ifle {off : Int} {x : Int32} (hf : am_S mi pc pc' (.ifCond .le off, a, b, q, z)) (ht : am_tg pc off = some t) (kt : x ≤ 0 → am_wp mi (t, ls, st) h Q) (kf : ¬ x ≤ 0 → am_wp mi (pc', ls, st) h Q) : am_wp mi (pc, ls, .int x :: st) h Q := by
  obtain ⟨M, hM, hr⟩ := hf.m
  rw [hf.2] at kf
  exact w_br (c := am_cd .le x 0) hM hr rfl ht (fun q => kt (of_decide_eq_true q)) (fun q => kf (of_decide_eq_false q))
theorem w_icmple {off : Int} {x y : Int32} (hf : am_S mi pc pc' (.if_icmp .le off, a, b, q, z)) (ht : am_tg pc off = some t) (kt : x ≤ y → am_wp mi (t, ls, st) h Q) (kf : ¬ x ≤ y → am_wp mi (pc', ls, st) h Q) : am_wp mi (pc, ls, .int y :: .int x :: st) h Q := by
  obtain ⟨M, hM, hr⟩ := hf.m
  rw [hf.2] at kf
  exact w_br (c := am_cd .le x y) hM hr rfl ht (fun q => kt (of_decide_eq_true q)) (fun q => kf (of_decide_eq_false q))
theorem am_bi_0 {c : Bool} : am_bi c = 0 ↔ c = false := by cases c <;> decide
theorem w_ifeqB {off : Int} {c : Bool} (hf : am_S mi pc pc' (.ifCond .eq off, a, b, q, z)) (ht : am_tg pc off = some t) (kt : c = false → am_wp mi (t, ls, st) h Q) (kf : c = true → am_wp mi (pc', ls, st) h Q) : am_wp mi (pc, ls, .int (am_bi c) :: st) h Q := w_ifeq hf ht (fun q => kt (am_bi_0.mp q)) (fun q => kf (by cases c <;> first | rfl | exact absurd rfl q))
theorem w_ifneB {off : Int} {c : Bool} (hf : am_S mi pc pc' (.ifCond .ne off, a, b, q, z)) (ht : am_tg pc off = some t) (kt : c = true → am_wp mi (t, ls, st) h Q) (kf : c = false → am_wp mi (pc', ls, st) h Q) : am_wp mi (pc, ls, .int (am_bi c) :: st) h Q := w_ifne hf ht (fun q => kt (by cases c <;> first | rfl | exact absurd rfl q)) (fun q => kf (am_bi_0.mp q))
theorem w_acmpne {off : Int} {x y : Nat} (hf : am_S mi pc pc' (.if_acmp .ne off, a, b, q, z)) (hxy : (x = 2 ∧ y = 2) ∨ ((x = 1 ∨ 3 ≤ x) ∧ (y = 1 ∨ 3 ≤ y))) (ht : am_tg pc off = some t) (kt : ¬ x = y → am_wp mi (t, ls, st) h Q) (kf : x = y → am_wp mi (pc', ls, st) h Q) : am_wp mi (pc, ls, .ref y :: .ref x :: st) h Q := by
  obtain ⟨M, hM, hr⟩ := hf.m
  rw [hf.2] at kf
  refine w_br (c := decide (¬ x = y)) hM hr ?_ ht (fun q => kt (of_decide_eq_true q)) (fun q => kf (Decidable.of_not_not (of_decide_eq_false q)))
  show am_ifa .ne pc off ls (.ref y :: .ref x :: st) h = _
  unfold am_ifa
  exact if_pos hxy
theorem w_acmpeq {off : Int} {x y : Nat} (hf : am_S mi pc pc' (.if_acmp .eq off, a, b, q, z)) (hxy : (x = 2 ∧ y = 2) ∨ ((x = 1 ∨ 3 ≤ x) ∧ (y = 1 ∨ 3 ≤ y))) (ht : am_tg pc off = some t) (kt : x = y → am_wp mi (t, ls, st) h Q) (kf : ¬ x = y → am_wp mi (pc', ls, st) h Q) : am_wp mi (pc, ls, .ref y :: .ref x :: st) h Q := by
  obtain ⟨M, hM, hr⟩ := hf.m
  rw [hf.2] at kf
  refine w_br (c := decide (x = y)) hM hr ?_ ht (fun q => kt (of_decide_eq_true q)) (fun q => kf (of_decide_eq_false q))
  show am_ifa .eq pc off ls (.ref y :: .ref x :: st) h = _
  unfold am_ifa
  exact if_pos hxy
theorem w_tswO {d lo hi : Int} {offs : Array Int} {x : Int32} (hf : am_S mi pc pc' (.tableswitch d lo hi offs, a, b, q, z)) (hq : x.toInt < lo ∨ hi < x.toInt) (ht : am_tg pc d = some t) (k : am_wp mi (t, ls, st) h Q) : am_wp mi (pc, ls, .int x :: st) h Q := by
  obtain ⟨M, hM, hr⟩ := hf.m
  refine am_wn hM hr (q := ((t, ls, st), h)) ?_ k
  show am_tsw d lo hi offs pc ls (.int x :: st) h = _
  unfold am_tsw
  simp only [if_pos hq]
  unfold am_jp
  rw [ht]
  rfl
theorem w_tswI {d lo hi off : Int} {offs : Array Int} {x : Int32} {n : Nat} (hf : am_S mi pc pc' (.tableswitch d lo hi offs, a, b, q, z)) (hq : ¬ (x.toInt < lo ∨ hi < x.toInt)) (hn : (x.toInt - lo).toNat = n) (ho : offs[n]? = some off) (ht : am_tg pc off = some t) (k : am_wp mi (t, ls, st) h Q) : am_wp mi (pc, ls, .int x :: st) h Q := by
  subst hn
  obtain ⟨M, hM, hr⟩ := hf.m
  refine am_wn hM hr (q := ((t, ls, st), h)) ?_ k
  show am_tsw d lo hi offs pc ls (.int x :: st) h = _
  unfold am_tsw
  simp only [if_neg hq, ho]
  unfold am_jp
  rw [ht]
  rfl
theorem w_getf {i x : Nat} {fs : List Value} {v : Value} (hf : am_S mi pc pc' (.getfield i, a, b, q, z)) (hh : h[x]? = some (.inr (a, fs))) (hv : fs[b]? = some v) (k : am_wp mi (pc', ls, v :: st) h Q) : am_wp mi (pc, ls, .ref x :: st) h Q := by
  refine hf.n (fun _ => ?_) k
  show am_gf a b pc ls (.ref x :: st) h = _
  unfold am_gf
  simp only [hh, if_true, hv]
  rfl
/-- may this method write that field -/
def am_may (mi a b : Nat) : Bool := match am_mt[mi]? with
  | some M => !(am_fin a b) || (M.2.1 && M.1 == a)
  | none => false
theorem w_putf {i x : Nat} {fs : List Value} {v : Value} (hf : am_S mi pc pc' (.putfield i, a, b, q, z)) (hm : am_may mi a b = true) (hh : h[x]? = some (.inr (a, fs))) (hl : Nat.blt b fs.length = true) (hv : am_okf (am_tyf a b) v = true) (k : am_wp mi (pc', ls, st) (h.set x (.inr (a, fs.set b v))) Q) : am_wp mi (pc, ls, v :: .ref x :: st) h Q := by
  obtain ⟨M, hM, hr⟩ := hf.m
  rw [hf.2] at k
  refine am_wn hM hr (q := ((pc + 3, ls, st), _)) ?_ k
  show am_pf M a b pc ls (v :: .ref x :: st) h = _
  unfold am_pf
  simp only [hh]
  rw [if_pos]
  · rfl
  · refine ⟨trivial, Nat.blt_eq.mp hl, hv, fun hfi => ?_⟩
    unfold am_may at hm
    rw [hM] at hm
    simp only [hfi, Bool.not_true, Bool.false_or, Bool.and_eq_true, beq_iff_eq] at hm
    exact hm
theorem w_gets {i : Nat} (hf : am_S mi pc pc' (.getstatic i, a, b, q, z)) (k : am_wp mi (pc', ls, .ref 1 :: st) h Q) : am_wp mi (pc, ls, st) h Q := hf.n (fun _ => rfl) k
theorem am_inb {j n : Nat} (h : j < n) (hn : n < 2 ^ 31) : am_outb (nI j) n = false := by
  unfold am_outb
  rw [nI_clamp (Nat.lt_trans h hn)]
  simp [nI_pos (Nat.lt_trans h hn), h]
theorem w_iald {x n : Nat} {f : Nat → Int32} {i v : Int32} (hf : am_S mi pc pc' (.iaload, a, b, q, z)) (hh : h[x]? = some (.inl (0, n, .inl f))) (hi : am_outb i n = false) (hv : f i.toNatClampNeg = v) (k : am_wp mi (pc', ls, .int v :: st) h Q) : am_wp mi (pc, ls, .int i :: .ref x :: st) h Q := by
  subst hv
  refine hf.n (fun _ => ?_) k
  show am_ial pc ls (.int i :: .ref x :: st) h = _
  unfold am_ial
  simp only [hh, hi]
  rfl
theorem w_iald0 {n : Nat} {f : Nat → Int32} {i v : Int32} (hf : am_S mi pc pc' (.iaload, a, b, q, z)) (hh : h[0]? = some (.inl (9, n, .inl f))) (hi : am_outb i n = false) (hv : f i.toNatClampNeg = v) (k : am_wp mi (pc', ls, .int v :: st) h Q) : am_wp mi (pc, ls, .int i :: .ref 0 :: st) h Q := by
  subst hv
  refine hf.n (fun _ => ?_) k
  show am_ial pc ls (.int i :: .ref 0 :: st) h = _
  unfold am_ial
  simp only [hh, hi]
  rfl
theorem w_bald {x n t : Nat} {f : Nat → Int32} {i v : Int32} (hf : am_S mi pc pc' (.baload, a, b, q, z)) (hh : h[x]? = some (.inl (t, n, .inl f))) (ht : t = 1 ∨ t = 2) (hi : am_outb i n = false) (hv : f i.toNatClampNeg = v) (k : am_wp mi (pc', ls, .int v :: st) h Q) : am_wp mi (pc, ls, .int i :: .ref x :: st) h Q := by
  subst hv
  refine hf.n (fun _ => ?_) k
  show am_bal pc ls (.int i :: .ref x :: st) h = _
  unfold am_bal
  simp only [hh, hi, ht, and_self, if_true]
  rfl
theorem w_aald {x n t : Nat} {f : Nat → Option Nat} {i : Int32} {v : Value} (hf : am_S mi pc pc' (.aaload, a, b, q, z)) (hh : h[x]? = some (.inl (t, n, .inr (.inr (.inr (.inr f)))))) (ht : t = 3 ∨ t = 4) (hi : am_outb i n = false) (hv : va_rf (f i.toNatClampNeg) = v) (k : am_wp mi (pc', ls, v :: st) h Q) : am_wp mi (pc, ls, .int i :: .ref x :: st) h Q := by
  subst hv
  refine hf.n (fun _ => ?_) k
  show am_aal pc ls (.int i :: .ref x :: st) h = _
  unfold am_aal
  simp only [hh, hi, ht, and_self, if_true]
  rfl
theorem w_iast {x n : Nat} {f : Nat → Int32} {i v : Int32} (hf : am_S mi pc pc' (.iastore, a, b, q, z)) (hh : h[x]? = some (.inl (0, n, .inl f))) (hi : am_outb i n = false) (k : am_wp mi (pc', ls, st) (h.set x (.inl (0, n, .inl (upd f i.toNatClampNeg v)))) Q) : am_wp mi (pc, ls, .int v :: .int i :: .ref x :: st) h Q := by
  refine hf.n (fun _ => ?_) k
  show am_ias pc ls (.int v :: .int i :: .ref x :: st) h = _
  unfold am_ias
  simp only [hh, hi]
  rfl
theorem w_bast {x n t : Nat} {f : Nat → Int32} {i v : Int32} (hf : am_S mi pc pc' (.bastore, a, b, q, z)) (hh : h[x]? = some (.inl (t, n, .inl f))) (ht : t = 1 ∨ t = 2) (hi : am_outb i n = false) (k : am_wp mi (pc', ls, st) (h.set x (.inl (t, n, .inl (upd f i.toNatClampNeg (am_nrw t v))))) Q) : am_wp mi (pc, ls, .int v :: .int i :: .ref x :: st) h Q := by
  refine hf.n (fun _ => ?_) k
  show am_bas pc ls (.int v :: .int i :: .ref x :: st) h = _
  unfold am_bas
  simp only [hh, hi, ht, and_self, if_true]
  rfl
theorem w_aast {x n t v ci : Nat} {f : Nat → Option Nat} {i : Int32} (hf : am_S mi pc pc' (.aastore, a, b, q, z)) (hh : h[x]? = some (.inl (t, n, .inr (.inr (.inr (.inr f)))))) (hv : am_obj h v = some ci) (ht : t = 3 ∨ (t = 4 ∧ ci = 7)) (hi : am_outb i n = false) (k : am_wp mi (pc', ls, st) (h.set x (.inl (t, n, .inr (.inr (.inr (.inr (va_up f i.toNatClampNeg (some v)))))))) Q) : am_wp mi (pc, ls, .ref v :: .int i :: .ref x :: st) h Q := by
  refine hf.n (fun _ => ?_) k
  show am_aas pc ls (.ref v :: .int i :: .ref x :: st) h = _
  unfold am_aas
  simp only [hh, hv, hi, ht, and_self, if_true]
  rfl
theorem w_alen {x n t : Nat} {y : (Nat → Int32) ⊕ (Nat → Int64) ⊕ (Nat → UInt32) ⊕ (Nat → UInt64) ⊕ (Nat → Option Nat)} (hf : am_S mi pc pc' (.arraylength, a, b, q, z)) (hh : h[x]? = some (.inl (t, n, y))) (ht : t < 5 ∨ (t = 9 ∧ x = 0) ∨ (t = 8 ∧ x = 1)) (k : am_wp mi (pc', ls, .int (nI n) :: st) h Q) : am_wp mi (pc, ls, .ref x :: st) h Q := by
  refine hf.n (fun _ => ?_) k
  show am_aln pc ls (.ref x :: st) h = _
  unfold am_aln
  simp only [hh, if_pos ht]
  rfl
theorem w_nwi {n : Nat} (hf : am_S mi pc pc' (.newarray .int, a, b, q, z)) (hn : n ≤ 100000) (k : am_wp mi (pc', ls, .ref h.length :: st) (h ++ [.inl (0, n, .inl (fun _ => 0))]) Q) : am_wp mi (pc, ls, .int (nI n) :: st) h Q := by
  refine hf.n (fun _ => ?_) k
  show am_nwa .int pc ls (.int (nI n) :: st) h = _
  unfold am_nwa
  simp only [nI_clamp (show n < 2 ^ 31 by omega), nI_pos (show n < 2 ^ 31 by omega), hn]
  rfl
theorem w_nwb {n : Nat} (hf : am_S mi pc pc' (.newarray .byte, a, b, q, z)) (hn : n ≤ 100000) (k : am_wp mi (pc', ls, .ref h.length :: st) (h ++ [.inl (1, n, .inl (fun _ => 0))]) Q) : am_wp mi (pc, ls, .int (nI n) :: st) h Q := by
  refine hf.n (fun _ => ?_) k
  show am_nwa .byte pc ls (.int (nI n) :: st) h = _
  unfold am_nwa
  simp only [nI_clamp (show n < 2 ^ 31 by omega), nI_pos (show n < 2 ^ 31 by omega), hn]
  rfl
theorem w_nwz {n : Nat} (hf : am_S mi pc pc' (.newarray .boolean, a, b, q, z)) (hn : n ≤ 100000) (k : am_wp mi (pc', ls, .ref h.length :: st) (h ++ [.inl (2, n, .inl (fun _ => 0))]) Q) : am_wp mi (pc, ls, .int (nI n) :: st) h Q := by
  refine hf.n (fun _ => ?_) k
  show am_nwa .boolean pc ls (.int (nI n) :: st) h = _
  unfold am_nwa
  simp only [nI_clamp (show n < 2 ^ 31 by omega), nI_pos (show n < 2 ^ 31 by omega), hn]
  rfl
theorem w_anw {i n : Nat} (hf : am_S mi pc pc' (.anewarray i, a, b, q, z)) (hn : n ≤ 100000) (k : am_wp mi (pc', ls, .ref h.length :: st) (h ++ [.inl (a, n, .inr (.inr (.inr (.inr (fun _ => none)))))]) Q) : am_wp mi (pc, ls, .int (nI n) :: st) h Q := by
  refine hf.n (fun _ => ?_) k
  show am_anw a pc ls (.int (nI n) :: st) h = _
  unfold am_anw
  simp only [nI_clamp (show n < 2 ^ 31 by omega), nI_pos (show n < 2 ^ 31 by omega), hn]
  rfl
theorem w_new {i : Nat} {fs : List Value} (hf : am_S mi pc pc' (.new i, a, b, q, z)) (hfs : am_dfl.getD a [] = fs) (k : am_wp mi (pc', ls, .ref h.length :: st) (h ++ [.inr (a, fs)]) Q) : am_wp mi (pc, ls, st) h Q := by
  subst hfs
  exact hf.n (fun _ => rfl) k
theorem w_cast {i x : Nat} {fs : List Value} (hf : am_S mi pc pc' (.checkcast i, a, b, q, z)) (hh : h[x]? = some (.inr (a, fs))) (k : am_wp mi (pc', ls, .ref x :: st) h Q) : am_wp mi (pc, ls, .ref x :: st) h Q := by
  refine hf.n (fun _ => ?_) k
  show am_cst a pc ls (.ref x :: st) h = _
  unfold am_cst
  simp only [hh, if_true]
  rfl
/-- room for a native at this method, with n words below -/
def am_roomy (mi n : Nat) : Bool := match am_mt[mi]? with
  | some M => decide (1 ≤ M.2.2.2.2.1) && decide (n + 20 ≤ M.2.2.2.2.2.1)
  | none => false
theorem am_roomy_i {n : Nat} {M : am_M} (hM : am_mt[mi]? = some M) (hr : am_roomy mi n = true) (hs : Nat.ble (am_sum st) n = true) : am_nat M st = true := by
  unfold am_roomy at hr
  rw [hM] at hr
  simp only [Bool.and_eq_true, decide_eq_true_eq] at hr
  have := Nat.le_of_ble_eq_true hs
  simp only [am_nat, Bool.and_eq_true, decide_eq_true_eq]
  omega
theorem w_oini {i x n : Nat} (hf : am_S mi pc pc' (.invokespecial i, 0, b, q, z)) (hr : am_roomy mi n = true) (hs : Nat.ble (am_sum st) n = true) (k : am_wp mi (pc', ls, st) h Q) : am_wp mi (pc, ls, .ref x :: st) h Q := by
  obtain ⟨M, hM, hfe⟩ := hf.m
  rw [hf.2] at k
  refine am_wn hM hfe (q := ((pc + 3, ls, st), h)) ?_ k
  show am_ivi M 0 b pc ls (.ref x :: st) h = _
  unfold am_ivi
  simp only [if_true, am_roomy_i hM hr hs]
  rfl
theorem w_gcls {i x n m : Nat} {y : (Nat → Int32) ⊕ (Nat → Int64) ⊕ (Nat → UInt32) ⊕ (Nat → UInt64) ⊕ (Nat → Option Nat)} (hf : am_S mi pc pc' (.invokevirtual i, 1, b, q, z)) (hh : h[x]? = some (.inl (3, n, y))) (hx : 3 ≤ x) (hr : am_roomy mi m = true) (hs : Nat.ble (am_sum st) m = true) (k : am_wp mi (pc', ls, .ref 2 :: st) h Q) : am_wp mi (pc, ls, .ref x :: st) h Q := by
  obtain ⟨M, hM, hfe⟩ := hf.m
  rw [hf.2] at k
  refine am_wn hM hfe (q := ((pc + 3, ls, .ref 2 :: st), h)) ?_ k
  show am_ivv M 1 b pc ls (.ref x :: st) h = _
  unfold am_ivv
  simp only [if_true, hh, am_roomy_i hM hr hs, hx, and_self]
  rfl
theorem w_abs {i n : Nat} {x v : Int32} (hf : am_S mi pc pc' (.invokestatic i, 4, b, q, z)) (hr : am_roomy mi n = true) (hs : Nat.ble (am_sum st) n = true) (hv : (if 0 ≤ x then x else 0 - x) = v) (k : am_wp mi (pc', ls, .int v :: st) h Q) : am_wp mi (pc, ls, .int x :: st) h Q := by
  subst hv
  obtain ⟨M, hM, hfe⟩ := hf.m
  rw [hf.2] at k
  refine am_wn hM hfe (q := ((pc + 3, ls, _ :: st), h)) ?_ k
  show am_ivs M 4 b pc ls (.int x :: st) h = _
  unfold am_ivs
  simp only [am_roomy_i hM hr hs]
  rfl
theorem w_max {i n : Nat} {x y v : Int32} (hf : am_S mi pc pc' (.invokestatic i, 5, b, q, z)) (hr : am_roomy mi n = true) (hs : Nat.ble (am_sum st) n = true) (hv : (if x < y then y else x) = v) (k : am_wp mi (pc', ls, .int v :: st) h Q) : am_wp mi (pc, ls, .int y :: .int x :: st) h Q := by
  subst hv
  obtain ⟨M, hM, hfe⟩ := hf.m
  rw [hf.2] at k
  refine am_wn hM hfe (q := ((pc + 3, ls, _ :: st), h)) ?_ k
  show am_ivs M 5 b pc ls (.int y :: .int x :: st) h = _
  unfold am_ivs
  simp only [am_roomy_i hM hr hs]
  rfl
theorem w_min {i n : Nat} {x y v : Int32} (hf : am_S mi pc pc' (.invokestatic i, 6, b, q, z)) (hr : am_roomy mi n = true) (hs : Nat.ble (am_sum st) n = true) (hv : (if y < x then y else x) = v) (k : am_wp mi (pc', ls, .int v :: st) h Q) : am_wp mi (pc, ls, .int y :: .int x :: st) h Q := by
  subst hv
  obtain ⟨M, hM, hfe⟩ := hf.m
  rw [hf.2] at k
  refine am_wn hM hfe (q := ((pc + 3, ls, _ :: st), h)) ?_ k
  show am_ivs M 6 b pc ls (.int y :: .int x :: st) h = _
  unfold am_ivs
  simp only [am_roomy_i hM hr hs]
  rfl
theorem w_cpr {i m x y n0 n1 : Nat} {f g : Nat → Option Nat} {sp dp n : Int32} (hf : am_S mi pc pc' (.invokestatic i, 2, b, q, z)) (hr : am_roomy mi m = true) (hs : Nat.ble (am_sum st) m = true) (hh : h[x]? = some (.inl (3, n0, .inr (.inr (.inr (.inr f)))))) (hh2 : h[y]? = some (.inl (3, n1, .inr (.inr (.inr (.inr g)))))) (hc : am_cpi sp dp n n0 n1 = true) (hq : am_cpr h f sp.toNatClampNeg n.toNatClampNeg = true) (k : am_wp mi (pc', ls, st) (h.set y (.inl (3, n1, .inr (.inr (.inr (.inr (va_cpy f g sp.toNatClampNeg dp.toNatClampNeg n.toNatClampNeg))))))) Q) : am_wp mi (pc, ls, .int n :: .int dp :: .ref y :: .int sp :: .ref x :: st) h Q := by
  obtain ⟨M, hM, hfe⟩ := hf.m
  rw [hf.2] at k
  refine am_wn hM hfe (q := ((pc + 3, ls, st), _)) ?_ k
  show am_ivs M 2 b pc ls (.int n :: .int dp :: .ref y :: .int sp :: .ref x :: st) h = _
  unfold am_ivs
  simp only [if_true, hh, hh2, am_roomy_i hM hr hs, hc, hq, and_self]
  rfl
theorem w_cpb {i m x y n0 n1 : Nat} {f g : Nat → Int32} {sp dp n : Int32} (hf : am_S mi pc pc' (.invokestatic i, 3, b, q, z)) (hr : am_roomy mi m = true) (hs : Nat.ble (am_sum st) m = true) (hh : h[x]? = some (.inl (1, n0, .inl f))) (hh2 : h[y]? = some (.inl (1, n1, .inl g))) (hc : am_cpi sp dp n n0 n1 = true) (hq : am_cpb f sp.toNatClampNeg n.toNatClampNeg = true) (k : am_wp mi (pc', ls, st) (h.set y (.inl (1, n1, .inl (va_cpy f g sp.toNatClampNeg dp.toNatClampNeg n.toNatClampNeg)))) Q) : am_wp mi (pc, ls, .int n :: .int dp :: .ref y :: .int sp :: .ref x :: st) h Q := by
  obtain ⟨M, hM, hfe⟩ := hf.m
  rw [hf.2] at k
  refine am_wn hM hfe (q := ((pc + 3, ls, st), _)) ?_ k
  show am_ivs M 3 b pc ls (.int n :: .int dp :: .ref y :: .int sp :: .ref x :: st) h = _
  unfold am_ivs
  simp only [hh, hh2, am_roomy_i hM hr hs, hc, hq, and_self]
  rfl
/-- returns -/
def am_rk (mi : Nat) : Nat := match am_mt[mi]? with
  | some M => M.2.2.1
  | none => 9
theorem w_iret {x : Int32} (hf : am_S mi pc pc' (.ireturn, a, b, q, z)) (hr : am_rk mi = 0) (k : Q (some (.int x)) h) : am_wp mi (pc, ls, [.int x]) h Q := by
  obtain ⟨M, hM, hfe⟩ := hf.m
  unfold am_rk at hr
  rw [hM] at hr
  refine am_wr hM hfe ?_ k
  show am_rtI M [.int x] = _
  unfold am_rtI
  simp only [if_pos (Or.inl hr)]
theorem w_zret {c : Bool} (hf : am_S mi pc pc' (.ireturn, a, b, q, z)) (hr : am_rk mi = 1) (k : Q (some (.int (am_bi c))) h) : am_wp mi (pc, ls, [.int (am_bi c)]) h Q := by
  obtain ⟨M, hM, hfe⟩ := hf.m
  unfold am_rk at hr
  rw [hM] at hr
  refine am_wr hM hfe ?_ k
  show am_rtI M [.int (am_bi c)] = _
  unfold am_rtI
  have h9 : am_bi c = 0 ∨ am_bi c = 1 := by cases c <;> decide
  exact if_pos (Or.inr ⟨hr, h9⟩)
theorem w_zret1 (hf : am_S mi pc pc' (.ireturn, a, b, q, z)) (hr : am_rk mi = 1) (k : Q (some (.int 1)) h) : am_wp mi (pc, ls, [.int 1]) h Q := w_zret (c := true) hf hr k
theorem w_zret0 (hf : am_S mi pc pc' (.ireturn, a, b, q, z)) (hr : am_rk mi = 1) (k : Q (some (.int 0)) h) : am_wp mi (pc, ls, [.int 0]) h Q := w_zret (c := false) hf hr k
theorem w_lret {x : Int64} (hf : am_S mi pc pc' (.lreturn, a, b, q, z)) (hr : am_rk mi = 2) (k : Q (some (.long x)) h) : am_wp mi (pc, ls, [.long x]) h Q := by
  obtain ⟨M, hM, hfe⟩ := hf.m
  unfold am_rk at hr
  rw [hM] at hr
  refine am_wr hM hfe ?_ k
  show am_rtL M [.long x] = _
  unfold am_rtL
  simp only [if_pos hr]
theorem w_aret {x : Nat} (hf : am_S mi pc pc' (.areturn, a, b, q, z)) (hr : am_rk mi = 3) (k : Q (some (.ref x)) h) : am_wp mi (pc, ls, [.ref x]) h Q := by
  obtain ⟨M, hM, hfe⟩ := hf.m
  unfold am_rk at hr
  rw [hM] at hr
  refine am_wr hM hfe ?_ k
  show am_rtA M [.ref x] = _
  unfold am_rtA
  simp only [if_pos hr]
theorem w_vret (hf : am_S mi pc pc' (.return_, a, b, q, z)) (hr : am_rk mi = 4) (k : Q none h) : am_wp mi (pc, ls, []) h Q := by
  obtain ⟨M, hM, hfe⟩ := hf.m
  unfold am_rk at hr
  rw [hM] at hr
  refine am_wr hM hfe ?_ k
  show am_rtV M [] = _
  unfold am_rtV
  simp only [if_pos hr]
/-- may mi call mj, whose locals are mx -/
def am_mc (mi mj mx : Nat) : Bool := match am_mt[mi]? with
  | some M => (match am_mt[mj]? with
    | some N => decide (N.2.2.2.2.1 + 1 ≤ M.2.2.2.2.1) && decide (8 + (N.2.2.2.1 + 11) + N.2.2.2.2.2.1 ≤ M.2.2.2.2.2.1) && N.2.2.2.1 == mx
    | none => false)
  | none => false
theorem am_mc_i {mj mx : Nat} {M : am_M} {as rest : List Value} (hM : am_mt[mi]? = some M) (hc : am_mc mi mj mx = true) (hs : Nat.ble (am_sum rest) 8 = true) (hl : Nat.ble (am_ent as).length mx = true) : am_cl M mj as rest pc ls = some (.inr (.inr (mj, as, (pc + 3, ls, rest)))) := by
  unfold am_mc at hc
  rw [hM] at hc
  cases hN : am_mt[mj]? with
  | none => rw [hN] at hc; cases hc
  | some N =>
    rw [hN] at hc
    simp only [Bool.and_eq_true, decide_eq_true_eq, beq_iff_eq] at hc
    obtain ⟨⟨h1, h2⟩, h3⟩ := hc
    unfold am_cl
    simp only [hN]
    rw [if_pos]
    exact ⟨Nat.le_of_ble_eq_true hs, h1, h2, by rw [h3]; exact Nat.le_of_ble_eq_true hl⟩
theorem w_callS0 {i mj mx : Nat}  {Q1 : Option Value → am_H → Prop} (hf : am_S mi pc pc' (.invokestatic i, mj + 10, 0, q, z)) (hc : am_mc mi mj mx = true) (hs : Nat.ble (am_sum st) 8 = true) (hl : Nat.ble (am_ent []).length mx = true) (w : am_ev mj [] h Q1) (k : ∀ v h', Q1 v h' → am_wp mi (pc', ls, v.toList ++ st) h' Q) : am_wp mi (pc, ls, st) h Q := by
  obtain ⟨M, hM, hfe⟩ := hf.m
  rw [hf.2] at k
  refine am_wc hM hfe (q := (mj, [], (pc + 3, ls, st))) ?_ w k
  exact am_mc_i hM hc hs hl
theorem w_callS0r {i mj mx : Nat}  {r : Value} (hf : am_S mi pc pc' (.invokestatic i, mj + 10, 0, q, z)) (hc : am_mc mi mj mx = true) (hs : Nat.ble (am_sum st) 8 = true) (hl : Nat.ble (am_ent []).length mx = true) (w : am_rd mj [] h r) (k : am_wp mi (pc', ls, r :: st) h Q) : am_wp mi (pc, ls, st) h Q := w_callS0 hf hc hs hl w (fun v h' e => by obtain ⟨rfl, rfl⟩ := e; exact k)
theorem w_callV0 {i mj mx x ci : Nat} {fs : List Value}  {Q1 : Option Value → am_H → Prop} (hf : am_S mi pc pc' (.invokevirtual i, mj + 10, 0, q, z)) (hh : h[x]? = some (.inr (ci, fs))) (ho : am_own mj = ci) (hc : am_mc mi mj mx = true) (hs : Nat.ble (am_sum st) 8 = true) (hl : Nat.ble (am_ent [.ref x]).length mx = true) (w : am_ev mj [.ref x] h Q1) (k : ∀ v h', Q1 v h' → am_wp mi (pc', ls, v.toList ++ st) h' Q) : am_wp mi (pc, ls, .ref x :: st) h Q := by
  obtain ⟨M, hM, hfe⟩ := hf.m
  rw [hf.2] at k
  refine am_wc hM hfe (q := (mj, [.ref x], (pc + 3, ls, st))) ?_ w k
  show am_ivv M (mj + 10) 0 pc ls (.ref x :: st) h = _
  unfold am_ivv
  rw [if_neg (by omega)]
  simp only [List.drop, hh]
  rw [if_pos ⟨ho.symm, by simp only [List.length_cons]; omega⟩]
  exact am_mc_i hM hc hs hl
theorem w_callV0r {i mj mx x ci : Nat} {fs : List Value}  {r : Value} (hf : am_S mi pc pc' (.invokevirtual i, mj + 10, 0, q, z)) (hh : h[x]? = some (.inr (ci, fs))) (ho : am_own mj = ci) (hc : am_mc mi mj mx = true) (hs : Nat.ble (am_sum st) 8 = true) (hl : Nat.ble (am_ent [.ref x]).length mx = true) (w : am_rd mj [.ref x] h r) (k : am_wp mi (pc', ls, r :: st) h Q) : am_wp mi (pc, ls, .ref x :: st) h Q := w_callV0 hf hh ho hc hs hl w (fun v h' e => by obtain ⟨rfl, rfl⟩ := e; exact k)
theorem w_callI0 {i mj mx x : Nat}  {Q1 : Option Value → am_H → Prop} (hf : am_S mi pc pc' (.invokespecial i, mj + 10, 0, q, z)) (hc : am_mc mi mj mx = true) (hs : Nat.ble (am_sum st) 8 = true) (hl : Nat.ble (am_ent [.ref x]).length mx = true) (w : am_ev mj [.ref x] h Q1) (k : ∀ v h', Q1 v h' → am_wp mi (pc', ls, v.toList ++ st) h' Q) : am_wp mi (pc, ls, .ref x :: st) h Q := by
  obtain ⟨M, hM, hfe⟩ := hf.m
  rw [hf.2] at k
  refine am_wc hM hfe (q := (mj, [.ref x], (pc + 3, ls, st))) ?_ w k
  show am_ivi M (mj + 10) 0 pc ls (.ref x :: st) h = _
  unfold am_ivi
  rw [if_neg (by omega)]
  simp only [List.drop]
  rw [if_pos (by simp only [List.length_cons]; omega)]
  exact am_mc_i hM hc hs hl
theorem w_callS1 {i mj mx : Nat} {v0 : Value} {Q1 : Option Value → am_H → Prop} (hf : am_S mi pc pc' (.invokestatic i, mj + 10, 1, q, z)) (hc : am_mc mi mj mx = true) (hs : Nat.ble (am_sum st) 8 = true) (hl : Nat.ble (am_ent [v0]).length mx = true) (w : am_ev mj [v0] h Q1) (k : ∀ v h', Q1 v h' → am_wp mi (pc', ls, v.toList ++ st) h' Q) : am_wp mi (pc, ls, v0 :: st) h Q := by
  obtain ⟨M, hM, hfe⟩ := hf.m
  rw [hf.2] at k
  refine am_wc hM hfe (q := (mj, [v0], (pc + 3, ls, st))) ?_ w k
  exact am_mc_i hM hc hs hl
theorem w_callS1r {i mj mx : Nat} {v0 : Value} {r : Value} (hf : am_S mi pc pc' (.invokestatic i, mj + 10, 1, q, z)) (hc : am_mc mi mj mx = true) (hs : Nat.ble (am_sum st) 8 = true) (hl : Nat.ble (am_ent [v0]).length mx = true) (w : am_rd mj [v0] h r) (k : am_wp mi (pc', ls, r :: st) h Q) : am_wp mi (pc, ls, v0 :: st) h Q := w_callS1 hf hc hs hl w (fun v h' e => by obtain ⟨rfl, rfl⟩ := e; exact k)
theorem w_callV1 {i mj mx x ci : Nat} {fs : List Value} {v0 : Value} {Q1 : Option Value → am_H → Prop} (hf : am_S mi pc pc' (.invokevirtual i, mj + 10, 1, q, z)) (hh : h[x]? = some (.inr (ci, fs))) (ho : am_own mj = ci) (hc : am_mc mi mj mx = true) (hs : Nat.ble (am_sum st) 8 = true) (hl : Nat.ble (am_ent [.ref x, v0]).length mx = true) (w : am_ev mj [.ref x, v0] h Q1) (k : ∀ v h', Q1 v h' → am_wp mi (pc', ls, v.toList ++ st) h' Q) : am_wp mi (pc, ls, v0 :: .ref x :: st) h Q := by
  obtain ⟨M, hM, hfe⟩ := hf.m
  rw [hf.2] at k
  refine am_wc hM hfe (q := (mj, [.ref x, v0], (pc + 3, ls, st))) ?_ w k
  show am_ivv M (mj + 10) 1 pc ls (v0 :: .ref x :: st) h = _
  unfold am_ivv
  rw [if_neg (by omega)]
  simp only [List.drop, hh]
  rw [if_pos ⟨ho.symm, by simp only [List.length_cons]; omega⟩]
  exact am_mc_i hM hc hs hl
theorem w_callV1r {i mj mx x ci : Nat} {fs : List Value} {v0 : Value} {r : Value} (hf : am_S mi pc pc' (.invokevirtual i, mj + 10, 1, q, z)) (hh : h[x]? = some (.inr (ci, fs))) (ho : am_own mj = ci) (hc : am_mc mi mj mx = true) (hs : Nat.ble (am_sum st) 8 = true) (hl : Nat.ble (am_ent [.ref x, v0]).length mx = true) (w : am_rd mj [.ref x, v0] h r) (k : am_wp mi (pc', ls, r :: st) h Q) : am_wp mi (pc, ls, v0 :: .ref x :: st) h Q := w_callV1 hf hh ho hc hs hl w (fun v h' e => by obtain ⟨rfl, rfl⟩ := e; exact k)
theorem w_callI1 {i mj mx x : Nat} {v0 : Value} {Q1 : Option Value → am_H → Prop} (hf : am_S mi pc pc' (.invokespecial i, mj + 10, 1, q, z)) (hc : am_mc mi mj mx = true) (hs : Nat.ble (am_sum st) 8 = true) (hl : Nat.ble (am_ent [.ref x, v0]).length mx = true) (w : am_ev mj [.ref x, v0] h Q1) (k : ∀ v h', Q1 v h' → am_wp mi (pc', ls, v.toList ++ st) h' Q) : am_wp mi (pc, ls, v0 :: .ref x :: st) h Q := by
  obtain ⟨M, hM, hfe⟩ := hf.m
  rw [hf.2] at k
  refine am_wc hM hfe (q := (mj, [.ref x, v0], (pc + 3, ls, st))) ?_ w k
  show am_ivi M (mj + 10) 1 pc ls (v0 :: .ref x :: st) h = _
  unfold am_ivi
  rw [if_neg (by omega)]
  simp only [List.drop]
  rw [if_pos (by simp only [List.length_cons]; omega)]
  exact am_mc_i hM hc hs hl
theorem w_callS2 {i mj mx : Nat} {v0 v1 : Value} {Q1 : Option Value → am_H → Prop} (hf : am_S mi pc pc' (.invokestatic i, mj + 10, 2, q, z)) (hc : am_mc mi mj mx = true) (hs : Nat.ble (am_sum st) 8 = true) (hl : Nat.ble (am_ent [v0, v1]).length mx = true) (w : am_ev mj [v0, v1] h Q1) (k : ∀ v h', Q1 v h' → am_wp mi (pc', ls, v.toList ++ st) h' Q) : am_wp mi (pc, ls, v1 :: v0 :: st) h Q := by
  obtain ⟨M, hM, hfe⟩ := hf.m
  rw [hf.2] at k
  refine am_wc hM hfe (q := (mj, [v0, v1], (pc + 3, ls, st))) ?_ w k
  exact am_mc_i hM hc hs hl
theorem w_callS2r {i mj mx : Nat} {v0 v1 : Value} {r : Value} (hf : am_S mi pc pc' (.invokestatic i, mj + 10, 2, q, z)) (hc : am_mc mi mj mx = true) (hs : Nat.ble (am_sum st) 8 = true) (hl : Nat.ble (am_ent [v0, v1]).length mx = true) (w : am_rd mj [v0, v1] h r) (k : am_wp mi (pc', ls, r :: st) h Q) : am_wp mi (pc, ls, v1 :: v0 :: st) h Q := w_callS2 hf hc hs hl w (fun v h' e => by obtain ⟨rfl, rfl⟩ := e; exact k)
theorem w_callV2 {i mj mx x ci : Nat} {fs : List Value} {v0 v1 : Value} {Q1 : Option Value → am_H → Prop} (hf : am_S mi pc pc' (.invokevirtual i, mj + 10, 2, q, z)) (hh : h[x]? = some (.inr (ci, fs))) (ho : am_own mj = ci) (hc : am_mc mi mj mx = true) (hs : Nat.ble (am_sum st) 8 = true) (hl : Nat.ble (am_ent [.ref x, v0, v1]).length mx = true) (w : am_ev mj [.ref x, v0, v1] h Q1) (k : ∀ v h', Q1 v h' → am_wp mi (pc', ls, v.toList ++ st) h' Q) : am_wp mi (pc, ls, v1 :: v0 :: .ref x :: st) h Q := by
  obtain ⟨M, hM, hfe⟩ := hf.m
  rw [hf.2] at k
  refine am_wc hM hfe (q := (mj, [.ref x, v0, v1], (pc + 3, ls, st))) ?_ w k
  show am_ivv M (mj + 10) 2 pc ls (v1 :: v0 :: .ref x :: st) h = _
  unfold am_ivv
  rw [if_neg (by omega)]
  simp only [List.drop, hh]
  rw [if_pos ⟨ho.symm, by simp only [List.length_cons]; omega⟩]
  exact am_mc_i hM hc hs hl
theorem w_callV2r {i mj mx x ci : Nat} {fs : List Value} {v0 v1 : Value} {r : Value} (hf : am_S mi pc pc' (.invokevirtual i, mj + 10, 2, q, z)) (hh : h[x]? = some (.inr (ci, fs))) (ho : am_own mj = ci) (hc : am_mc mi mj mx = true) (hs : Nat.ble (am_sum st) 8 = true) (hl : Nat.ble (am_ent [.ref x, v0, v1]).length mx = true) (w : am_rd mj [.ref x, v0, v1] h r) (k : am_wp mi (pc', ls, r :: st) h Q) : am_wp mi (pc, ls, v1 :: v0 :: .ref x :: st) h Q := w_callV2 hf hh ho hc hs hl w (fun v h' e => by obtain ⟨rfl, rfl⟩ := e; exact k)
theorem w_callI2 {i mj mx x : Nat} {v0 v1 : Value} {Q1 : Option Value → am_H → Prop} (hf : am_S mi pc pc' (.invokespecial i, mj + 10, 2, q, z)) (hc : am_mc mi mj mx = true) (hs : Nat.ble (am_sum st) 8 = true) (hl : Nat.ble (am_ent [.ref x, v0, v1]).length mx = true) (w : am_ev mj [.ref x, v0, v1] h Q1) (k : ∀ v h', Q1 v h' → am_wp mi (pc', ls, v.toList ++ st) h' Q) : am_wp mi (pc, ls, v1 :: v0 :: .ref x :: st) h Q := by
  obtain ⟨M, hM, hfe⟩ := hf.m
  rw [hf.2] at k
  refine am_wc hM hfe (q := (mj, [.ref x, v0, v1], (pc + 3, ls, st))) ?_ w k
  show am_ivi M (mj + 10) 2 pc ls (v1 :: v0 :: .ref x :: st) h = _
  unfold am_ivi
  rw [if_neg (by omega)]
  simp only [List.drop]
  rw [if_pos (by simp only [List.length_cons]; omega)]
  exact am_mc_i hM hc hs hl
theorem w_callS3 {i mj mx : Nat} {v0 v1 v2 : Value} {Q1 : Option Value → am_H → Prop} (hf : am_S mi pc pc' (.invokestatic i, mj + 10, 3, q, z)) (hc : am_mc mi mj mx = true) (hs : Nat.ble (am_sum st) 8 = true) (hl : Nat.ble (am_ent [v0, v1, v2]).length mx = true) (w : am_ev mj [v0, v1, v2] h Q1) (k : ∀ v h', Q1 v h' → am_wp mi (pc', ls, v.toList ++ st) h' Q) : am_wp mi (pc, ls, v2 :: v1 :: v0 :: st) h Q := by
  obtain ⟨M, hM, hfe⟩ := hf.m
  rw [hf.2] at k
  refine am_wc hM hfe (q := (mj, [v0, v1, v2], (pc + 3, ls, st))) ?_ w k
  exact am_mc_i hM hc hs hl
theorem w_callS3r {i mj mx : Nat} {v0 v1 v2 : Value} {r : Value} (hf : am_S mi pc pc' (.invokestatic i, mj + 10, 3, q, z)) (hc : am_mc mi mj mx = true) (hs : Nat.ble (am_sum st) 8 = true) (hl : Nat.ble (am_ent [v0, v1, v2]).length mx = true) (w : am_rd mj [v0, v1, v2] h r) (k : am_wp mi (pc', ls, r :: st) h Q) : am_wp mi (pc, ls, v2 :: v1 :: v0 :: st) h Q := w_callS3 hf hc hs hl w (fun v h' e => by obtain ⟨rfl, rfl⟩ := e; exact k)
theorem w_callV3 {i mj mx x ci : Nat} {fs : List Value} {v0 v1 v2 : Value} {Q1 : Option Value → am_H → Prop} (hf : am_S mi pc pc' (.invokevirtual i, mj + 10, 3, q, z)) (hh : h[x]? = some (.inr (ci, fs))) (ho : am_own mj = ci) (hc : am_mc mi mj mx = true) (hs : Nat.ble (am_sum st) 8 = true) (hl : Nat.ble (am_ent [.ref x, v0, v1, v2]).length mx = true) (w : am_ev mj [.ref x, v0, v1, v2] h Q1) (k : ∀ v h', Q1 v h' → am_wp mi (pc', ls, v.toList ++ st) h' Q) : am_wp mi (pc, ls, v2 :: v1 :: v0 :: .ref x :: st) h Q := by
  obtain ⟨M, hM, hfe⟩ := hf.m
  rw [hf.2] at k
  refine am_wc hM hfe (q := (mj, [.ref x, v0, v1, v2], (pc + 3, ls, st))) ?_ w k
  show am_ivv M (mj + 10) 3 pc ls (v2 :: v1 :: v0 :: .ref x :: st) h = _
  unfold am_ivv
  rw [if_neg (by omega)]
  simp only [List.drop, hh]
  rw [if_pos ⟨ho.symm, by simp only [List.length_cons]; omega⟩]
  exact am_mc_i hM hc hs hl
theorem w_callV3r {i mj mx x ci : Nat} {fs : List Value} {v0 v1 v2 : Value} {r : Value} (hf : am_S mi pc pc' (.invokevirtual i, mj + 10, 3, q, z)) (hh : h[x]? = some (.inr (ci, fs))) (ho : am_own mj = ci) (hc : am_mc mi mj mx = true) (hs : Nat.ble (am_sum st) 8 = true) (hl : Nat.ble (am_ent [.ref x, v0, v1, v2]).length mx = true) (w : am_rd mj [.ref x, v0, v1, v2] h r) (k : am_wp mi (pc', ls, r :: st) h Q) : am_wp mi (pc, ls, v2 :: v1 :: v0 :: .ref x :: st) h Q := w_callV3 hf hh ho hc hs hl w (fun v h' e => by obtain ⟨rfl, rfl⟩ := e; exact k)
theorem w_callI3 {i mj mx x : Nat} {v0 v1 v2 : Value} {Q1 : Option Value → am_H → Prop} (hf : am_S mi pc pc' (.invokespecial i, mj + 10, 3, q, z)) (hc : am_mc mi mj mx = true) (hs : Nat.ble (am_sum st) 8 = true) (hl : Nat.ble (am_ent [.ref x, v0, v1, v2]).length mx = true) (w : am_ev mj [.ref x, v0, v1, v2] h Q1) (k : ∀ v h', Q1 v h' → am_wp mi (pc', ls, v.toList ++ st) h' Q) : am_wp mi (pc, ls, v2 :: v1 :: v0 :: .ref x :: st) h Q := by
  obtain ⟨M, hM, hfe⟩ := hf.m
  rw [hf.2] at k
  refine am_wc hM hfe (q := (mj, [.ref x, v0, v1, v2], (pc + 3, ls, st))) ?_ w k
  show am_ivi M (mj + 10) 3 pc ls (v2 :: v1 :: v0 :: .ref x :: st) h = _
  unfold am_ivi
  rw [if_neg (by omega)]
  simp only [List.drop]
  rw [if_pos (by simp only [List.length_cons]; omega)]
  exact am_mc_i hM hc hs hl
theorem w_callS4 {i mj mx : Nat} {v0 v1 v2 v3 : Value} {Q1 : Option Value → am_H → Prop} (hf : am_S mi pc pc' (.invokestatic i, mj + 10, 4, q, z)) (hc : am_mc mi mj mx = true) (hs : Nat.ble (am_sum st) 8 = true) (hl : Nat.ble (am_ent [v0, v1, v2, v3]).length mx = true) (w : am_ev mj [v0, v1, v2, v3] h Q1) (k : ∀ v h', Q1 v h' → am_wp mi (pc', ls, v.toList ++ st) h' Q) : am_wp mi (pc, ls, v3 :: v2 :: v1 :: v0 :: st) h Q := by
  obtain ⟨M, hM, hfe⟩ := hf.m
  rw [hf.2] at k
  refine am_wc hM hfe (q := (mj, [v0, v1, v2, v3], (pc + 3, ls, st))) ?_ w k
  exact am_mc_i hM hc hs hl
theorem w_callS4r {i mj mx : Nat} {v0 v1 v2 v3 : Value} {r : Value} (hf : am_S mi pc pc' (.invokestatic i, mj + 10, 4, q, z)) (hc : am_mc mi mj mx = true) (hs : Nat.ble (am_sum st) 8 = true) (hl : Nat.ble (am_ent [v0, v1, v2, v3]).length mx = true) (w : am_rd mj [v0, v1, v2, v3] h r) (k : am_wp mi (pc', ls, r :: st) h Q) : am_wp mi (pc, ls, v3 :: v2 :: v1 :: v0 :: st) h Q := w_callS4 hf hc hs hl w (fun v h' e => by obtain ⟨rfl, rfl⟩ := e; exact k)
theorem w_callV4 {i mj mx x ci : Nat} {fs : List Value} {v0 v1 v2 v3 : Value} {Q1 : Option Value → am_H → Prop} (hf : am_S mi pc pc' (.invokevirtual i, mj + 10, 4, q, z)) (hh : h[x]? = some (.inr (ci, fs))) (ho : am_own mj = ci) (hc : am_mc mi mj mx = true) (hs : Nat.ble (am_sum st) 8 = true) (hl : Nat.ble (am_ent [.ref x, v0, v1, v2, v3]).length mx = true) (w : am_ev mj [.ref x, v0, v1, v2, v3] h Q1) (k : ∀ v h', Q1 v h' → am_wp mi (pc', ls, v.toList ++ st) h' Q) : am_wp mi (pc, ls, v3 :: v2 :: v1 :: v0 :: .ref x :: st) h Q := by
  obtain ⟨M, hM, hfe⟩ := hf.m
  rw [hf.2] at k
  refine am_wc hM hfe (q := (mj, [.ref x, v0, v1, v2, v3], (pc + 3, ls, st))) ?_ w k
  show am_ivv M (mj + 10) 4 pc ls (v3 :: v2 :: v1 :: v0 :: .ref x :: st) h = _
  unfold am_ivv
  rw [if_neg (by omega)]
  simp only [List.drop, hh]
  rw [if_pos ⟨ho.symm, by simp only [List.length_cons]; omega⟩]
  exact am_mc_i hM hc hs hl
theorem w_callV4r {i mj mx x ci : Nat} {fs : List Value} {v0 v1 v2 v3 : Value} {r : Value} (hf : am_S mi pc pc' (.invokevirtual i, mj + 10, 4, q, z)) (hh : h[x]? = some (.inr (ci, fs))) (ho : am_own mj = ci) (hc : am_mc mi mj mx = true) (hs : Nat.ble (am_sum st) 8 = true) (hl : Nat.ble (am_ent [.ref x, v0, v1, v2, v3]).length mx = true) (w : am_rd mj [.ref x, v0, v1, v2, v3] h r) (k : am_wp mi (pc', ls, r :: st) h Q) : am_wp mi (pc, ls, v3 :: v2 :: v1 :: v0 :: .ref x :: st) h Q := w_callV4 hf hh ho hc hs hl w (fun v h' e => by obtain ⟨rfl, rfl⟩ := e; exact k)
theorem w_callI4 {i mj mx x : Nat} {v0 v1 v2 v3 : Value} {Q1 : Option Value → am_H → Prop} (hf : am_S mi pc pc' (.invokespecial i, mj + 10, 4, q, z)) (hc : am_mc mi mj mx = true) (hs : Nat.ble (am_sum st) 8 = true) (hl : Nat.ble (am_ent [.ref x, v0, v1, v2, v3]).length mx = true) (w : am_ev mj [.ref x, v0, v1, v2, v3] h Q1) (k : ∀ v h', Q1 v h' → am_wp mi (pc', ls, v.toList ++ st) h' Q) : am_wp mi (pc, ls, v3 :: v2 :: v1 :: v0 :: .ref x :: st) h Q := by
  obtain ⟨M, hM, hfe⟩ := hf.m
  rw [hf.2] at k
  refine am_wc hM hfe (q := (mj, [.ref x, v0, v1, v2, v3], (pc + 3, ls, st))) ?_ w k
  show am_ivi M (mj + 10) 4 pc ls (v3 :: v2 :: v1 :: v0 :: .ref x :: st) h = _
  unfold am_ivi
  rw [if_neg (by omega)]
  simp only [List.drop]
  rw [if_pos (by simp only [List.length_cons]; omega)]
  exact am_mc_i hM hc hs hl
theorem w_callS5 {i mj mx : Nat} {v0 v1 v2 v3 v4 : Value} {Q1 : Option Value → am_H → Prop} (hf : am_S mi pc pc' (.invokestatic i, mj + 10, 5, q, z)) (hc : am_mc mi mj mx = true) (hs : Nat.ble (am_sum st) 8 = true) (hl : Nat.ble (am_ent [v0, v1, v2, v3, v4]).length mx = true) (w : am_ev mj [v0, v1, v2, v3, v4] h Q1) (k : ∀ v h', Q1 v h' → am_wp mi (pc', ls, v.toList ++ st) h' Q) : am_wp mi (pc, ls, v4 :: v3 :: v2 :: v1 :: v0 :: st) h Q := by
  obtain ⟨M, hM, hfe⟩ := hf.m
  rw [hf.2] at k
  refine am_wc hM hfe (q := (mj, [v0, v1, v2, v3, v4], (pc + 3, ls, st))) ?_ w k
  exact am_mc_i hM hc hs hl
theorem w_callS5r {i mj mx : Nat} {v0 v1 v2 v3 v4 : Value} {r : Value} (hf : am_S mi pc pc' (.invokestatic i, mj + 10, 5, q, z)) (hc : am_mc mi mj mx = true) (hs : Nat.ble (am_sum st) 8 = true) (hl : Nat.ble (am_ent [v0, v1, v2, v3, v4]).length mx = true) (w : am_rd mj [v0, v1, v2, v3, v4] h r) (k : am_wp mi (pc', ls, r :: st) h Q) : am_wp mi (pc, ls, v4 :: v3 :: v2 :: v1 :: v0 :: st) h Q := w_callS5 hf hc hs hl w (fun v h' e => by obtain ⟨rfl, rfl⟩ := e; exact k)
theorem w_callV5 {i mj mx x ci : Nat} {fs : List Value} {v0 v1 v2 v3 v4 : Value} {Q1 : Option Value → am_H → Prop} (hf : am_S mi pc pc' (.invokevirtual i, mj + 10, 5, q, z)) (hh : h[x]? = some (.inr (ci, fs))) (ho : am_own mj = ci) (hc : am_mc mi mj mx = true) (hs : Nat.ble (am_sum st) 8 = true) (hl : Nat.ble (am_ent [.ref x, v0, v1, v2, v3, v4]).length mx = true) (w : am_ev mj [.ref x, v0, v1, v2, v3, v4] h Q1) (k : ∀ v h', Q1 v h' → am_wp mi (pc', ls, v.toList ++ st) h' Q) : am_wp mi (pc, ls, v4 :: v3 :: v2 :: v1 :: v0 :: .ref x :: st) h Q := by
  obtain ⟨M, hM, hfe⟩ := hf.m
  rw [hf.2] at k
  refine am_wc hM hfe (q := (mj, [.ref x, v0, v1, v2, v3, v4], (pc + 3, ls, st))) ?_ w k
  show am_ivv M (mj + 10) 5 pc ls (v4 :: v3 :: v2 :: v1 :: v0 :: .ref x :: st) h = _
  unfold am_ivv
  rw [if_neg (by omega)]
  simp only [List.drop, hh]
  rw [if_pos ⟨ho.symm, by simp only [List.length_cons]; omega⟩]
  exact am_mc_i hM hc hs hl
theorem w_callV5r {i mj mx x ci : Nat} {fs : List Value} {v0 v1 v2 v3 v4 : Value} {r : Value} (hf : am_S mi pc pc' (.invokevirtual i, mj + 10, 5, q, z)) (hh : h[x]? = some (.inr (ci, fs))) (ho : am_own mj = ci) (hc : am_mc mi mj mx = true) (hs : Nat.ble (am_sum st) 8 = true) (hl : Nat.ble (am_ent [.ref x, v0, v1, v2, v3, v4]).length mx = true) (w : am_rd mj [.ref x, v0, v1, v2, v3, v4] h r) (k : am_wp mi (pc', ls, r :: st) h Q) : am_wp mi (pc, ls, v4 :: v3 :: v2 :: v1 :: v0 :: .ref x :: st) h Q := w_callV5 hf hh ho hc hs hl w (fun v h' e => by obtain ⟨rfl, rfl⟩ := e; exact k)
theorem w_callI5 {i mj mx x : Nat} {v0 v1 v2 v3 v4 : Value} {Q1 : Option Value → am_H → Prop} (hf : am_S mi pc pc' (.invokespecial i, mj + 10, 5, q, z)) (hc : am_mc mi mj mx = true) (hs : Nat.ble (am_sum st) 8 = true) (hl : Nat.ble (am_ent [.ref x, v0, v1, v2, v3, v4]).length mx = true) (w : am_ev mj [.ref x, v0, v1, v2, v3, v4] h Q1) (k : ∀ v h', Q1 v h' → am_wp mi (pc', ls, v.toList ++ st) h' Q) : am_wp mi (pc, ls, v4 :: v3 :: v2 :: v1 :: v0 :: .ref x :: st) h Q := by
  obtain ⟨M, hM, hfe⟩ := hf.m
  rw [hf.2] at k
  refine am_wc hM hfe (q := (mj, [.ref x, v0, v1, v2, v3, v4], (pc + 3, ls, st))) ?_ w k
  show am_ivi M (mj + 10) 5 pc ls (v4 :: v3 :: v2 :: v1 :: v0 :: .ref x :: st) h = _
  unfold am_ivi
  rw [if_neg (by omega)]
  simp only [List.drop]
  rw [if_pos (by simp only [List.length_cons]; omega)]
  exact am_mc_i hM hc hs hl
theorem w_callS6 {i mj mx : Nat} {v0 v1 v2 v3 v4 v5 : Value} {Q1 : Option Value → am_H → Prop} (hf : am_S mi pc pc' (.invokestatic i, mj + 10, 6, q, z)) (hc : am_mc mi mj mx = true) (hs : Nat.ble (am_sum st) 8 = true) (hl : Nat.ble (am_ent [v0, v1, v2, v3, v4, v5]).length mx = true) (w : am_ev mj [v0, v1, v2, v3, v4, v5] h Q1) (k : ∀ v h', Q1 v h' → am_wp mi (pc', ls, v.toList ++ st) h' Q) : am_wp mi (pc, ls, v5 :: v4 :: v3 :: v2 :: v1 :: v0 :: st) h Q := by
  obtain ⟨M, hM, hfe⟩ := hf.m
  rw [hf.2] at k
  refine am_wc hM hfe (q := (mj, [v0, v1, v2, v3, v4, v5], (pc + 3, ls, st))) ?_ w k
  exact am_mc_i hM hc hs hl
theorem w_callS6r {i mj mx : Nat} {v0 v1 v2 v3 v4 v5 : Value} {r : Value} (hf : am_S mi pc pc' (.invokestatic i, mj + 10, 6, q, z)) (hc : am_mc mi mj mx = true) (hs : Nat.ble (am_sum st) 8 = true) (hl : Nat.ble (am_ent [v0, v1, v2, v3, v4, v5]).length mx = true) (w : am_rd mj [v0, v1, v2, v3, v4, v5] h r) (k : am_wp mi (pc', ls, r :: st) h Q) : am_wp mi (pc, ls, v5 :: v4 :: v3 :: v2 :: v1 :: v0 :: st) h Q := w_callS6 hf hc hs hl w (fun v h' e => by obtain ⟨rfl, rfl⟩ := e; exact k)
theorem w_callI6 {i mj mx x : Nat} {v0 v1 v2 v3 v4 v5 : Value} {Q1 : Option Value → am_H → Prop} (hf : am_S mi pc pc' (.invokespecial i, mj + 10, 6, q, z)) (hc : am_mc mi mj mx = true) (hs : Nat.ble (am_sum st) 8 = true) (hl : Nat.ble (am_ent [.ref x, v0, v1, v2, v3, v4, v5]).length mx = true) (w : am_ev mj [.ref x, v0, v1, v2, v3, v4, v5] h Q1) (k : ∀ v h', Q1 v h' → am_wp mi (pc', ls, v.toList ++ st) h' Q) : am_wp mi (pc, ls, v5 :: v4 :: v3 :: v2 :: v1 :: v0 :: .ref x :: st) h Q := by
  obtain ⟨M, hM, hfe⟩ := hf.m
  rw [hf.2] at k
  refine am_wc hM hfe (q := (mj, [.ref x, v0, v1, v2, v3, v4, v5], (pc + 3, ls, st))) ?_ w k
  show am_ivi M (mj + 10) 6 pc ls (v5 :: v4 :: v3 :: v2 :: v1 :: v0 :: .ref x :: st) h = _
  unfold am_ivi
  rw [if_neg (by omega)]
  simp only [List.drop]
  rw [if_pos (by simp only [List.length_cons]; omega)]
  exact am_mc_i hM hc hs hl
end AMW
