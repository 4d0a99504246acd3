/-! the reference's world: one object (27), its arrays (28 ..); cc: its ints, aa: its arrays, by the place of the field -/
def mw_F (cc : Nat → Nat) : List Value := [.int (nI (cc 0)), .ref 28, .int (nI (cc 2)), .int (nI (cc 3)), .ref 29, .ref 30, .ref 31, .int (nI (cc 7)), .int (nI (cc 8)), .ref 32, .ref 33, .ref 34, .ref 35, .ref 36, .ref 37, .ref 38, .int (nI (cc 16)), .ref 39, .ref 40, .ref 41, .int (nI (cc 20)), .ref 42, .ref 43, .ref 44, .ref 45, .ref 46, .ref 47, .ref 48, .int (nI (cc 28)), .ref 49, .ref 50, .int (nI (cc 31)), .ref 51, .ref 52, .ref 53, .ref 54, .ref 55, .ref 56, .int (nI (cc 38)), .ref 57, .ref 58, .ref 59, .ref 60, .ref 61, .ref 62, .int (nI (cc 45)), .ref 63]
def mw_all (cc : Nat → Nat) (aa : Nat → Nat → Int32) : am_H := .inr (11, mw_F cc) :: [.inl (0, 6, .inl (aa 1)), .inl (0, 10, .inl (aa 4)), .inl (0, 10, .inl (aa 5)), .inl (0, 10, .inl (aa 6)), .inl (0, 40, .inl (aa 9)), .inl (0, 40, .inl (aa 10)), .inl (0, 40, .inl (aa 11)), .inl (0, 40, .inl (aa 12)), .inl (0, 4, .inl (aa 13)), .inl (0, 320, .inl (aa 14)), .inl (0, 80, .inl (aa 15)), .inl (0, 16, .inl (aa 17)), .inl (0, 192, .inl (aa 18)), .inl (0, 6, .inl (aa 19)), .inl (0, 40, .inl (aa 21)), .inl (0, 40, .inl (aa 22)), .inl (0, 40, .inl (aa 23)), .inl (0, 40, .inl (aa 24)), .inl (0, 40, .inl (aa 25)), .inl (0, 40, .inl (aa 26)), .inl (2, 40, .inl (aa 27)), .inl (0, 6, .inl (aa 29)), .inl (0, 6, .inl (aa 30)), .inl (0, 400, .inl (aa 32)), .inl (0, 400, .inl (aa 33)), .inl (0, 400, .inl (aa 34)), .inl (0, 400, .inl (aa 35)), .inl (0, 400, .inl (aa 36)), .inl (0, 400, .inl (aa 37)), .inl (0, 60, .inl (aa 39)), .inl (0, 60, .inl (aa 40)), .inl (0, 60, .inl (aa 41)), .inl (0, 60, .inl (aa 42)), .inl (0, 60, .inl (aa 43)), .inl (0, 10240, .inl (aa 44)), .inl (0, 10, .inl (aa 46))]
def MW (h : am_H) (cc : Nat → Nat) (aa : Nat → Nat → Int32) : Prop := ∀ (k : Nat) (c : am_C), (mw_all cc aa)[k]? = some c → h[27 + k]? = some c
def mFr (h h' : am_H) : Prop := h'.length = h.length ∧ am_sz h' = am_sz h ∧ ∀ k, (k < 27 ∨ 64 ≤ k) → h'[k]? = h[k]?
theorem mFr.rf (h : am_H) : mFr h h := ⟨rfl, rfl, fun _ _ => rfl⟩
theorem mFr.tr {h1 h2 h3 : am_H} (a : mFr h1 h2) (b : mFr h2 h3) : mFr h1 h3 := ⟨b.1.trans a.1, b.2.1.trans a.2.1, fun k hk => (b.2.2 k hk).trans (a.2.2 k hk)⟩
theorem mFr.st {h : am_H} {k : Nat} {c c0 : am_C} (hk : h[k]? = some c0) (hs : am_sl c = am_sl c0) (h1 : 27 ≤ k) (h2 : k < 64) : mFr h (h.set k c) := ⟨List.length_set, am_sz_set hk hs, fun j hj => List.getElem?_set_ne (by omega)⟩
theorem MW.up {h : am_H} {cc cc' : Nat → Nat} {aa aa' : Nat → Nat → Int32} (hw : MW h cc aa) {k n : Nat} {c c0 : am_C} (hn : 27 + k = n) (hk : (mw_all cc aa)[k]? = some c0) (e : (mw_all cc aa).set k c = mw_all cc' aa') : MW (h.set n c) cc' aa' := by
  subst hn
  intro j d hd
  rw [← e] at hd
  by_cases hj : k = j
  · subst hj
    have hl : k < (mw_all cc aa).length := (List.getElem?_eq_some_iff.mp hk).1
    rw [List.getElem?_set_self hl] at hd
    rw [List.getElem?_set_self (List.getElem?_eq_some_iff.mp (hw k c0 hk)).1]
    exact hd
  · rw [List.getElem?_set_ne hj] at hd
    rw [List.getElem?_set_ne (by omega)]
    exact hw j d hd
/-- an array's new contents -/
def ua (aa : Nat → Nat → Int32) (p : Nat) (f : Nat → Int32) : Nat → Nat → Int32 := fun q => if q = p then f else aa q
/-- an int's new value -/
def uc (cc : Nat → Nat) (p : Nat) (v : Nat) : Nat → Nat := fun q => if q = p then v else cc q
theorem mw_w1 {h : am_H} {cc : Nat → Nat} {aa : Nat → Nat → Int32} (hw : MW h cc aa) (f : Nat → Int32) : MW (h.set 28 (.inl (0, 6, .inl f))) cc (ua aa 1 f) := hw.up (k := 1) rfl rfl rfl
theorem mw_w4 {h : am_H} {cc : Nat → Nat} {aa : Nat → Nat → Int32} (hw : MW h cc aa) (f : Nat → Int32) : MW (h.set 29 (.inl (0, 10, .inl f))) cc (ua aa 4 f) := hw.up (k := 2) rfl rfl rfl
theorem mw_w5 {h : am_H} {cc : Nat → Nat} {aa : Nat → Nat → Int32} (hw : MW h cc aa) (f : Nat → Int32) : MW (h.set 30 (.inl (0, 10, .inl f))) cc (ua aa 5 f) := hw.up (k := 3) rfl rfl rfl
theorem mw_w6 {h : am_H} {cc : Nat → Nat} {aa : Nat → Nat → Int32} (hw : MW h cc aa) (f : Nat → Int32) : MW (h.set 31 (.inl (0, 10, .inl f))) cc (ua aa 6 f) := hw.up (k := 4) rfl rfl rfl
theorem mw_w9 {h : am_H} {cc : Nat → Nat} {aa : Nat → Nat → Int32} (hw : MW h cc aa) (f : Nat → Int32) : MW (h.set 32 (.inl (0, 40, .inl f))) cc (ua aa 9 f) := hw.up (k := 5) rfl rfl rfl
theorem mw_w10 {h : am_H} {cc : Nat → Nat} {aa : Nat → Nat → Int32} (hw : MW h cc aa) (f : Nat → Int32) : MW (h.set 33 (.inl (0, 40, .inl f))) cc (ua aa 10 f) := hw.up (k := 6) rfl rfl rfl
theorem mw_w11 {h : am_H} {cc : Nat → Nat} {aa : Nat → Nat → Int32} (hw : MW h cc aa) (f : Nat → Int32) : MW (h.set 34 (.inl (0, 40, .inl f))) cc (ua aa 11 f) := hw.up (k := 7) rfl rfl rfl
theorem mw_w12 {h : am_H} {cc : Nat → Nat} {aa : Nat → Nat → Int32} (hw : MW h cc aa) (f : Nat → Int32) : MW (h.set 35 (.inl (0, 40, .inl f))) cc (ua aa 12 f) := hw.up (k := 8) rfl rfl rfl
theorem mw_w13 {h : am_H} {cc : Nat → Nat} {aa : Nat → Nat → Int32} (hw : MW h cc aa) (f : Nat → Int32) : MW (h.set 36 (.inl (0, 4, .inl f))) cc (ua aa 13 f) := hw.up (k := 9) rfl rfl rfl
theorem mw_w14 {h : am_H} {cc : Nat → Nat} {aa : Nat → Nat → Int32} (hw : MW h cc aa) (f : Nat → Int32) : MW (h.set 37 (.inl (0, 320, .inl f))) cc (ua aa 14 f) := hw.up (k := 10) rfl rfl rfl
theorem mw_w15 {h : am_H} {cc : Nat → Nat} {aa : Nat → Nat → Int32} (hw : MW h cc aa) (f : Nat → Int32) : MW (h.set 38 (.inl (0, 80, .inl f))) cc (ua aa 15 f) := hw.up (k := 11) rfl rfl rfl
theorem mw_w17 {h : am_H} {cc : Nat → Nat} {aa : Nat → Nat → Int32} (hw : MW h cc aa) (f : Nat → Int32) : MW (h.set 39 (.inl (0, 16, .inl f))) cc (ua aa 17 f) := hw.up (k := 12) rfl rfl rfl
theorem mw_w18 {h : am_H} {cc : Nat → Nat} {aa : Nat → Nat → Int32} (hw : MW h cc aa) (f : Nat → Int32) : MW (h.set 40 (.inl (0, 192, .inl f))) cc (ua aa 18 f) := hw.up (k := 13) rfl rfl rfl
theorem mw_w19 {h : am_H} {cc : Nat → Nat} {aa : Nat → Nat → Int32} (hw : MW h cc aa) (f : Nat → Int32) : MW (h.set 41 (.inl (0, 6, .inl f))) cc (ua aa 19 f) := hw.up (k := 14) rfl rfl rfl
theorem mw_w21 {h : am_H} {cc : Nat → Nat} {aa : Nat → Nat → Int32} (hw : MW h cc aa) (f : Nat → Int32) : MW (h.set 42 (.inl (0, 40, .inl f))) cc (ua aa 21 f) := hw.up (k := 15) rfl rfl rfl
theorem mw_w22 {h : am_H} {cc : Nat → Nat} {aa : Nat → Nat → Int32} (hw : MW h cc aa) (f : Nat → Int32) : MW (h.set 43 (.inl (0, 40, .inl f))) cc (ua aa 22 f) := hw.up (k := 16) rfl rfl rfl
theorem mw_w23 {h : am_H} {cc : Nat → Nat} {aa : Nat → Nat → Int32} (hw : MW h cc aa) (f : Nat → Int32) : MW (h.set 44 (.inl (0, 40, .inl f))) cc (ua aa 23 f) := hw.up (k := 17) rfl rfl rfl
theorem mw_w24 {h : am_H} {cc : Nat → Nat} {aa : Nat → Nat → Int32} (hw : MW h cc aa) (f : Nat → Int32) : MW (h.set 45 (.inl (0, 40, .inl f))) cc (ua aa 24 f) := hw.up (k := 18) rfl rfl rfl
theorem mw_w25 {h : am_H} {cc : Nat → Nat} {aa : Nat → Nat → Int32} (hw : MW h cc aa) (f : Nat → Int32) : MW (h.set 46 (.inl (0, 40, .inl f))) cc (ua aa 25 f) := hw.up (k := 19) rfl rfl rfl
theorem mw_w26 {h : am_H} {cc : Nat → Nat} {aa : Nat → Nat → Int32} (hw : MW h cc aa) (f : Nat → Int32) : MW (h.set 47 (.inl (0, 40, .inl f))) cc (ua aa 26 f) := hw.up (k := 20) rfl rfl rfl
theorem mw_w27 {h : am_H} {cc : Nat → Nat} {aa : Nat → Nat → Int32} (hw : MW h cc aa) (f : Nat → Int32) : MW (h.set 48 (.inl (2, 40, .inl f))) cc (ua aa 27 f) := hw.up (k := 21) rfl rfl rfl
theorem mw_w29 {h : am_H} {cc : Nat → Nat} {aa : Nat → Nat → Int32} (hw : MW h cc aa) (f : Nat → Int32) : MW (h.set 49 (.inl (0, 6, .inl f))) cc (ua aa 29 f) := hw.up (k := 22) rfl rfl rfl
theorem mw_w30 {h : am_H} {cc : Nat → Nat} {aa : Nat → Nat → Int32} (hw : MW h cc aa) (f : Nat → Int32) : MW (h.set 50 (.inl (0, 6, .inl f))) cc (ua aa 30 f) := hw.up (k := 23) rfl rfl rfl
theorem mw_w32 {h : am_H} {cc : Nat → Nat} {aa : Nat → Nat → Int32} (hw : MW h cc aa) (f : Nat → Int32) : MW (h.set 51 (.inl (0, 400, .inl f))) cc (ua aa 32 f) := hw.up (k := 24) rfl rfl rfl
theorem mw_w33 {h : am_H} {cc : Nat → Nat} {aa : Nat → Nat → Int32} (hw : MW h cc aa) (f : Nat → Int32) : MW (h.set 52 (.inl (0, 400, .inl f))) cc (ua aa 33 f) := hw.up (k := 25) rfl rfl rfl
theorem mw_w34 {h : am_H} {cc : Nat → Nat} {aa : Nat → Nat → Int32} (hw : MW h cc aa) (f : Nat → Int32) : MW (h.set 53 (.inl (0, 400, .inl f))) cc (ua aa 34 f) := hw.up (k := 26) rfl rfl rfl
theorem mw_w35 {h : am_H} {cc : Nat → Nat} {aa : Nat → Nat → Int32} (hw : MW h cc aa) (f : Nat → Int32) : MW (h.set 54 (.inl (0, 400, .inl f))) cc (ua aa 35 f) := hw.up (k := 27) rfl rfl rfl
theorem mw_w36 {h : am_H} {cc : Nat → Nat} {aa : Nat → Nat → Int32} (hw : MW h cc aa) (f : Nat → Int32) : MW (h.set 55 (.inl (0, 400, .inl f))) cc (ua aa 36 f) := hw.up (k := 28) rfl rfl rfl
theorem mw_w37 {h : am_H} {cc : Nat → Nat} {aa : Nat → Nat → Int32} (hw : MW h cc aa) (f : Nat → Int32) : MW (h.set 56 (.inl (0, 400, .inl f))) cc (ua aa 37 f) := hw.up (k := 29) rfl rfl rfl
theorem mw_w39 {h : am_H} {cc : Nat → Nat} {aa : Nat → Nat → Int32} (hw : MW h cc aa) (f : Nat → Int32) : MW (h.set 57 (.inl (0, 60, .inl f))) cc (ua aa 39 f) := hw.up (k := 30) rfl rfl rfl
theorem mw_w40 {h : am_H} {cc : Nat → Nat} {aa : Nat → Nat → Int32} (hw : MW h cc aa) (f : Nat → Int32) : MW (h.set 58 (.inl (0, 60, .inl f))) cc (ua aa 40 f) := hw.up (k := 31) rfl rfl rfl
theorem mw_w41 {h : am_H} {cc : Nat → Nat} {aa : Nat → Nat → Int32} (hw : MW h cc aa) (f : Nat → Int32) : MW (h.set 59 (.inl (0, 60, .inl f))) cc (ua aa 41 f) := hw.up (k := 32) rfl rfl rfl
theorem mw_w42 {h : am_H} {cc : Nat → Nat} {aa : Nat → Nat → Int32} (hw : MW h cc aa) (f : Nat → Int32) : MW (h.set 60 (.inl (0, 60, .inl f))) cc (ua aa 42 f) := hw.up (k := 33) rfl rfl rfl
theorem mw_w43 {h : am_H} {cc : Nat → Nat} {aa : Nat → Nat → Int32} (hw : MW h cc aa) (f : Nat → Int32) : MW (h.set 61 (.inl (0, 60, .inl f))) cc (ua aa 43 f) := hw.up (k := 34) rfl rfl rfl
theorem mw_w44 {h : am_H} {cc : Nat → Nat} {aa : Nat → Nat → Int32} (hw : MW h cc aa) (f : Nat → Int32) : MW (h.set 62 (.inl (0, 10240, .inl f))) cc (ua aa 44 f) := hw.up (k := 35) rfl rfl rfl
theorem mw_w46 {h : am_H} {cc : Nat → Nat} {aa : Nat → Nat → Int32} (hw : MW h cc aa) (f : Nat → Int32) : MW (h.set 63 (.inl (0, 10, .inl f))) cc (ua aa 46 f) := hw.up (k := 36) rfl rfl rfl
theorem mw_i0 {h : am_H} {cc : Nat → Nat} {aa : Nat → Nat → Int32} (hw : MW h cc aa) (v : Nat) : MW (h.set 27 (.inr (11, (mw_F cc).set 0 (.int (nI v))))) (uc cc 0 v) aa := hw.up (k := 0) rfl rfl rfl
theorem mw_i2 {h : am_H} {cc : Nat → Nat} {aa : Nat → Nat → Int32} (hw : MW h cc aa) (v : Nat) : MW (h.set 27 (.inr (11, (mw_F cc).set 2 (.int (nI v))))) (uc cc 2 v) aa := hw.up (k := 0) rfl rfl rfl
theorem mw_i3 {h : am_H} {cc : Nat → Nat} {aa : Nat → Nat → Int32} (hw : MW h cc aa) (v : Nat) : MW (h.set 27 (.inr (11, (mw_F cc).set 3 (.int (nI v))))) (uc cc 3 v) aa := hw.up (k := 0) rfl rfl rfl
theorem mw_i7 {h : am_H} {cc : Nat → Nat} {aa : Nat → Nat → Int32} (hw : MW h cc aa) (v : Nat) : MW (h.set 27 (.inr (11, (mw_F cc).set 7 (.int (nI v))))) (uc cc 7 v) aa := hw.up (k := 0) rfl rfl rfl
theorem mw_i8 {h : am_H} {cc : Nat → Nat} {aa : Nat → Nat → Int32} (hw : MW h cc aa) (v : Nat) : MW (h.set 27 (.inr (11, (mw_F cc).set 8 (.int (nI v))))) (uc cc 8 v) aa := hw.up (k := 0) rfl rfl rfl
theorem mw_i16 {h : am_H} {cc : Nat → Nat} {aa : Nat → Nat → Int32} (hw : MW h cc aa) (v : Nat) : MW (h.set 27 (.inr (11, (mw_F cc).set 16 (.int (nI v))))) (uc cc 16 v) aa := hw.up (k := 0) rfl rfl rfl
theorem mw_i20 {h : am_H} {cc : Nat → Nat} {aa : Nat → Nat → Int32} (hw : MW h cc aa) (v : Nat) : MW (h.set 27 (.inr (11, (mw_F cc).set 20 (.int (nI v))))) (uc cc 20 v) aa := hw.up (k := 0) rfl rfl rfl
theorem mw_i28 {h : am_H} {cc : Nat → Nat} {aa : Nat → Nat → Int32} (hw : MW h cc aa) (v : Nat) : MW (h.set 27 (.inr (11, (mw_F cc).set 28 (.int (nI v))))) (uc cc 28 v) aa := hw.up (k := 0) rfl rfl rfl
theorem mw_i31 {h : am_H} {cc : Nat → Nat} {aa : Nat → Nat → Int32} (hw : MW h cc aa) (v : Nat) : MW (h.set 27 (.inr (11, (mw_F cc).set 31 (.int (nI v))))) (uc cc 31 v) aa := hw.up (k := 0) rfl rfl rfl
theorem mw_i38 {h : am_H} {cc : Nat → Nat} {aa : Nat → Nat → Int32} (hw : MW h cc aa) (v : Nat) : MW (h.set 27 (.inr (11, (mw_F cc).set 38 (.int (nI v))))) (uc cc 38 v) aa := hw.up (k := 0) rfl rfl rfl
theorem mw_i45 {h : am_H} {cc : Nat → Nat} {aa : Nat → Nat → Int32} (hw : MW h cc aa) (v : Nat) : MW (h.set 27 (.inr (11, (mw_F cc).set 45 (.int (nI v))))) (uc cc 45 v) aa := hw.up (k := 0) rfl rfl rfl
