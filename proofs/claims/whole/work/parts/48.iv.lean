/-! what holds of the state holds behind every call -/
theorem iv_e {S : x_A} {x : Int32} {cc : Nat → Nat} {aa : Nat → Nat → Int32} (e : S = (x, cc, aa)) (h : IV cc aa) : IV S.2.1 S.2.2 := by
  rw [e]
  exact h
theorem x_ixs {n : Nat} {s : Int32} (h : x_ix n s = true) : x_ix (n + 1) s = true := x_ix_m h (Nat.le_succ _)
/-- an old row with one more -/
theorem x_ups {f : Nat → Int32} {n : Nat} {v : Int32} {p : Int32 → Prop} (h : ∀ i, i < n → p (f i)) (hv : p v) : ∀ i, i < n + 1 → p (upd f n v i) := by
  intro i hi
  by_cases e : i = n
  · rw [e, pk_us]
    exact hv
  · rw [show upd f n v i = f i from if_neg e]
    exact h i (by omega)
theorem x_upa {f : Nat → Int32} {n : Nat} {v : Int32} {p : Nat → Int32 → Prop} (h : ∀ i, p i (f i)) (hv : p n v) : ∀ i, p i (upd f n v i) := by
  intro i
  by_cases e : i = n
  · rw [e, pk_us]
    exact hv
  · rw [show upd f n v i = f i from if_neg e]
    exact h i
theorem iv_meets {cc : Nat → Nat} {aa : Nat → Nat → Int32} (iv : IV cc aa) (w : Nat) (h : w ≤ 5) (f : Nat → Int32) : IV (uc cc 0 w) (ua aa 1 f) :=
  ⟨h,
   iv.n2,
   iv.n3,
   iv.n7,
   iv.n8,
   iv.n16,
   iv.n20,
   iv.n28,
   iv.n31,
   iv.n38,
   iv.n45,
   iv.sq,
   iv.mv,
   iv.sz,
   iv.sg,
   iv.bl,
   iv.bs,
   iv.ki,
   iv.wo,
   iv.wh,
   iv.tm,
   iv.mk,
   iv.bk,
   iv.bn,
   iv.cr,
   iv.fn,
   iv.yn,
   iv.yc,
   iv.ys,
   iv.yd,
   iv.yo,
   iv.ym,
   iv.yk,
   iv.ps⟩
theorem iv_M {cc : Nat → Nat} {aa : Nat → Nat → Int32} (iv : IV cc aa) (w : Nat) (h : w ≤ 5) : IV (S_meets cc aa w).2.1 (S_meets cc aa w).2.2 := iv_meets iv w h _
theorem iv_sq0 {cc : Nat → Nat} {aa : Nat → Nat → Int32} (iv : IV cc aa) (x y : Nat) (w : Int32) (hx : x ≤ 60) (hy : y ≤ 60) (h : cc 3 < 10) : IV (uc cc 3 (cc 3 + 1)) (ua (ua (ua aa 4 (upd (aa 4) (cc 3) (nI x))) 5 (upd (aa 5) (cc 3) (nI y))) 6 (upd (aa 6) (cc 3) w)) :=
  ⟨iv.n0,
   iv.n2,
   h,
   iv.n7,
   iv.n8,
   iv.n16,
   iv.n20,
   iv.n28,
   iv.n31,
   iv.n38,
   iv.n45,
   fun i hi => ⟨x_ups (p := fun v => ∃ x, x ≤ 60 ∧ v = nI x) (fun i hi => (iv.sq i hi).1) ⟨x, hx, rfl⟩ i hi, x_ups (p := fun v => ∃ y, y ≤ 60 ∧ v = nI y) (fun i hi => (iv.sq i hi).2) ⟨y, hy, rfl⟩ i hi⟩,
   fun i hi => x_ixs (iv.mv i hi),
   iv.sz,
   iv.sg,
   iv.bl,
   iv.bs,
   iv.ki,
   iv.wo,
   fun n hn => (let ⟨w, h1, h2⟩ := iv.wh n hn; ⟨w, Nat.lt_of_lt_of_le h1 (Nat.pow_le_pow_right (by decide) (Nat.le_succ _)), h2⟩),
   iv.tm,
   iv.mk,
   iv.bk,
   iv.bn,
   fun i hi => x_ixs (iv.cr i hi),
   iv.fn,
   iv.yn,
   iv.yc,
   fun i hi => x_ixs (iv.ys i hi),
   iv.yd,
   iv.yo,
   iv.ym,
   iv.yk,
   fun i hi => x_ixs (iv.ps i hi)⟩
theorem iv_hear0 {cc : Nat → Nat} {aa : Nat → Nat → Int32} (iv : IV cc aa) (v : Nat) (h : v ≤ 60) : IV (uc cc 7 v) (aa) :=
  ⟨iv.n0,
   iv.n2,
   iv.n3,
   h,
   iv.n8,
   iv.n16,
   iv.n20,
   iv.n28,
   iv.n31,
   iv.n38,
   iv.n45,
   iv.sq,
   iv.mv,
   iv.sz,
   iv.sg,
   iv.bl,
   iv.bs,
   iv.ki,
   iv.wo,
   iv.wh,
   iv.tm,
   iv.mk,
   iv.bk,
   iv.bn,
   iv.cr,
   iv.fn,
   iv.yn,
   iv.yc,
   iv.ys,
   iv.yd,
   iv.yo,
   iv.ym,
   iv.yk,
   iv.ps⟩
theorem iv_lat0 {cc : Nat → Nat} {aa : Nat → Nat → Int32} (iv : IV cc aa) (v : Nat) (h : cc 2 ≤ v) (h4 : v ≤ 400) : IV (uc cc 2 v) (ua aa 30 (fun c => if c < cc 28 then 0 else aa 30 c)) :=
  ⟨iv.n0,
   h4,
   iv.n3,
   iv.n7,
   iv.n8,
   iv.n16,
   iv.n20,
   iv.n28,
   iv.n31,
   iv.n38,
   iv.n45,
   iv.sq,
   iv.mv,
   iv.sz,
   iv.sg,
   iv.bl,
   iv.bs,
   iv.ki,
   iv.wo,
   iv.wh,
   iv.tm,
   iv.mk,
   iv.bk,
   iv.bn,
   iv.cr,
   fun c h1 h2 => (if_neg (Nat.not_lt.mpr h1)).trans (iv.fn c h1 h2),
   iv.yn,
   iv.yc,
   iv.ys,
   fun i hi => (let ⟨d, h1, h2⟩ := iv.yd i hi; ⟨d, Nat.le_trans h1 h, h2⟩),
   iv.yo,
   iv.ym,
   iv.yk,
   iv.ps⟩
theorem iv_mv0 {cc : Nat → Nat} {aa : Nat → Nat → Int32} (iv : IV cc aa) (s a b c : Int32) (hs : x_ix (cc 3) s = true) (h : cc 8 < 40) : IV (uc cc 8 (cc 8 + 1)) (ua (ua (ua (ua aa 9 (upd (aa 9) (cc 8) s)) 10 (upd (aa 10) (cc 8) a)) 11 (upd (aa 11) (cc 8) b)) 12 (upd (aa 12) (cc 8) c)) :=
  ⟨iv.n0,
   iv.n2,
   iv.n3,
   iv.n7,
   h,
   iv.n16,
   iv.n20,
   iv.n28,
   iv.n31,
   iv.n38,
   iv.n45,
   iv.sq,
   x_ups (p := fun v => x_ix (cc 3) v = true) iv.mv hs,
   iv.sz,
   iv.sg,
   iv.bl,
   iv.bs,
   iv.ki,
   iv.wo,
   iv.wh,
   iv.tm,
   iv.mk,
   iv.bk,
   iv.bn,
   iv.cr,
   iv.fn,
   iv.yn,
   iv.yc,
   iv.ys,
   iv.yd,
   iv.yo,
   iv.ym,
   iv.yk,
   iv.ps⟩
theorem iv_sh0 {cc : Nat → Nat} {aa : Nat → Nat → Int32} (iv : IV cc aa) (s n : Nat) (hn : n ≤ 80) : IV (cc) (ua (ua aa 13 (upd (aa 13) s (nI n))) 14 (x_fill0 (aa 14) (80 * s) 80)) :=
  ⟨iv.n0,
   iv.n2,
   iv.n3,
   iv.n7,
   iv.n8,
   iv.n16,
   iv.n20,
   iv.n28,
   iv.n31,
   iv.n38,
   iv.n45,
   iv.sq,
   iv.mv,
   fun t ht => (x_upa (p := fun i v => i < 4 → v = -9 ∨ ∃ z, z ≤ 80 ∧ v = nI z) (fun i hi => iv.sz i hi) (fun _ => Or.inr ⟨n, hn, rfl⟩) t) ht,
   fun k => by show x_byte (if 80 * s ≤ k ∧ k < 80 * s + 80 then 0 else aa 14 k); split <;> first | exact rfl | exact iv.sg k,
   iv.bl,
   iv.bs,
   iv.ki,
   iv.wo,
   iv.wh,
   iv.tm,
   iv.mk,
   iv.bk,
   iv.bn,
   iv.cr,
   iv.fn,
   iv.yn,
   iv.yc,
   iv.ys,
   iv.yd,
   iv.yo,
   iv.ym,
   iv.yk,
   iv.ps⟩
theorem iv_lay0 {cc : Nat → Nat} {aa : Nat → Nat → Int32} (iv : IV cc aa) (k : Nat) (c : Int32) : IV (cc) (ua aa 14 (upd (aa 14) k c.toInt8.toInt32)) :=
  ⟨iv.n0,
   iv.n2,
   iv.n3,
   iv.n7,
   iv.n8,
   iv.n16,
   iv.n20,
   iv.n28,
   iv.n31,
   iv.n38,
   iv.n45,
   iv.sq,
   iv.mv,
   iv.sz,
   x_upa (p := fun _ v => x_byte v) iv.sg (show x_byte c.toInt8.toInt32 from by unfold x_byte; rw [Int8.toInt8_toInt32]),
   iv.bl,
   iv.bs,
   iv.ki,
   iv.wo,
   iv.wh,
   iv.tm,
   iv.mk,
   iv.bk,
   iv.bn,
   iv.cr,
   iv.fn,
   iv.yn,
   iv.yc,
   iv.ys,
   iv.yd,
   iv.yo,
   iv.ym,
   iv.yk,
   iv.ps⟩
theorem iv_tear0 {cc : Nat → Nat} {aa : Nat → Nat → Int32} (iv : IV cc aa) (s : Nat) : IV (cc) (ua aa 13 (upd (aa 13) s (-9))) :=
  ⟨iv.n0,
   iv.n2,
   iv.n3,
   iv.n7,
   iv.n8,
   iv.n16,
   iv.n20,
   iv.n28,
   iv.n31,
   iv.n38,
   iv.n45,
   iv.sq,
   iv.mv,
   fun t ht => (x_upa (p := fun i v => i < 4 → v = -9 ∨ ∃ z, z ≤ 80 ∧ v = nI z) (fun i hi => iv.sz i hi) (fun _ => Or.inl rfl) t) ht,
   iv.sg,
   iv.bl,
   iv.bs,
   iv.ki,
   iv.wo,
   iv.wh,
   iv.tm,
   iv.mk,
   iv.bk,
   iv.bn,
   iv.cr,
   iv.fn,
   iv.yn,
   iv.yc,
   iv.ys,
   iv.yd,
   iv.yo,
   iv.ym,
   iv.yk,
   iv.ps⟩
theorem iv_copy0 {cc : Nat → Nat} {aa : Nat → Nat → Int32} (iv : IV cc aa) (f : Nat → Int32) (a n s : Nat) : IV (cc) (ua (ua aa 15 f) 14 (x_put (aa 14) a n (fun k => aa 14 (s + k)))) :=
  ⟨iv.n0,
   iv.n2,
   iv.n3,
   iv.n7,
   iv.n8,
   iv.n16,
   iv.n20,
   iv.n28,
   iv.n31,
   iv.n38,
   iv.n45,
   iv.sq,
   iv.mv,
   iv.sz,
   fun k => by show x_byte (if a ≤ k ∧ k < a + n then aa 14 (s + (k - a)) else aa 14 k); split <;> exact iv.sg _,
   iv.bl,
   iv.bs,
   iv.ki,
   iv.wo,
   iv.wh,
   iv.tm,
   iv.mk,
   iv.bk,
   iv.bn,
   iv.cr,
   iv.fn,
   iv.yn,
   iv.yc,
   iv.ys,
   iv.yd,
   iv.yo,
   iv.ym,
   iv.yk,
   iv.ps⟩
theorem iv_bar0 {cc : Nat → Nat} {aa : Nat → Nat → Int32} (iv : IV cc aa) (c : Nat) (f g : Nat → Int32) (hc : c ≤ 16) (hf : ∀ b, b < c → ∃ n, 0 < n ∧ n ≤ 12 ∧ f b = nI n) (hg : ∀ k, x_byte (g k)) : IV (uc cc 16 c) (ua (ua aa 17 f) 18 g) :=
  ⟨iv.n0,
   iv.n2,
   iv.n3,
   iv.n7,
   iv.n8,
   hc,
   iv.n20,
   iv.n28,
   iv.n31,
   iv.n38,
   iv.n45,
   iv.sq,
   iv.mv,
   iv.sz,
   iv.sg,
   hf,
   hg,
   iv.ki,
   iv.wo,
   iv.wh,
   iv.tm,
   iv.mk,
   iv.bk,
   iv.bn,
   iv.cr,
   iv.fn,
   iv.yn,
   iv.yc,
   iv.ys,
   iv.yd,
   iv.yo,
   iv.ym,
   iv.yk,
   iv.ps⟩
theorem iv_rate0 {cc : Nat → Nat} {aa : Nat → Nat → Int32} (iv : IV cc aa) (f : Nat → Int32) : IV (cc) (ua aa 19 f) :=
  ⟨iv.n0,
   iv.n2,
   iv.n3,
   iv.n7,
   iv.n8,
   iv.n16,
   iv.n20,
   iv.n28,
   iv.n31,
   iv.n38,
   iv.n45,
   iv.sq,
   iv.mv,
   iv.sz,
   iv.sg,
   iv.bl,
   iv.bs,
   iv.ki,
   iv.wo,
   iv.wh,
   iv.tm,
   iv.mk,
   iv.bk,
   iv.bn,
   iv.cr,
   iv.fn,
   iv.yn,
   iv.yc,
   iv.ys,
   iv.yd,
   iv.yo,
   iv.ym,
   iv.yk,
   iv.ps⟩
theorem iv_no0 {cc : Nat → Nat} {aa : Nat → Nat → Int32} (iv : IV cc aa) (k w q t m : Nat) (d : Int32) (hk : k < 6) (hw : 0 < w ∧ w ≤ 100) (hq : q < 2 ^ cc 3) (ht : 0 < t ∧ t ≤ 9) (hm : m < 65536) (h : cc 20 < 40) : IV (uc cc 20 (cc 20 + 1)) (ua (ua (ua (ua (ua (ua aa 21 (upd (aa 21) (cc 20) (nI k))) 22 (upd (aa 22) (cc 20) (nI w))) 23 (upd (aa 23) (cc 20) (nI q))) 24 (upd (aa 24) (cc 20) (nI t))) 25 (upd (aa 25) (cc 20) (nI m))) 26 (upd (aa 26) (cc 20) d)) :=
  ⟨iv.n0,
   iv.n2,
   iv.n3,
   iv.n7,
   iv.n8,
   iv.n16,
   h,
   iv.n28,
   iv.n31,
   iv.n38,
   iv.n45,
   iv.sq,
   iv.mv,
   iv.sz,
   iv.sg,
   iv.bl,
   iv.bs,
   x_ups (p := fun v => ∃ k, k < 6 ∧ v = nI k) iv.ki ⟨k, hk, rfl⟩,
   x_ups (p := fun v => ∃ w, 0 < w ∧ w ≤ 100 ∧ v = nI w) iv.wo ⟨w, hw.1, hw.2, rfl⟩,
   x_ups (p := fun v => ∃ w, w < 2 ^ cc 3 ∧ v = nI w) iv.wh ⟨q, hq, rfl⟩,
   x_ups (p := fun v => ∃ t, 0 < t ∧ t ≤ 9 ∧ v = nI t) iv.tm ⟨t, ht.1, ht.2, rfl⟩,
   x_ups (p := fun v => ∃ m, m < 65536 ∧ v = nI m) iv.mk ⟨m, hm, rfl⟩,
   iv.bk,
   fun n h1 h2 => iv.bn n (Nat.le_of_succ_le h1) h2,
   iv.cr,
   iv.fn,
   fun i hi => x_ixs (iv.yn i hi),
   iv.yc,
   iv.ys,
   iv.yd,
   iv.yo,
   iv.ym,
   iv.yk,
   iv.ps⟩
theorem iv_back0 {cc : Nat → Nat} {aa : Nat → Nat → Int32} (iv : IV cc aa) (j : Nat) (hj : j < cc 20) : IV (cc) (ua aa 27 (upd (aa 27) j 1)) :=
  ⟨iv.n0,
   iv.n2,
   iv.n3,
   iv.n7,
   iv.n8,
   iv.n16,
   iv.n20,
   iv.n28,
   iv.n31,
   iv.n38,
   iv.n45,
   iv.sq,
   iv.mv,
   iv.sz,
   iv.sg,
   iv.bl,
   iv.bs,
   iv.ki,
   iv.wo,
   iv.wh,
   iv.tm,
   iv.mk,
   fun n hn => (x_upa (p := fun i v => i < 40 → v = 0 ∨ v = 1) (fun i hi => iv.bk i hi) (fun _ => Or.inr rfl) n) hn,
   fun n h1 h2 => (show upd (aa 27) j 1 n = aa 27 n from if_neg (fun e => by omega)).trans (iv.bn n h1 h2),
   iv.cr,
   iv.fn,
   iv.yn,
   iv.yc,
   iv.ys,
   iv.yd,
   iv.yo,
   iv.ym,
   iv.yk,
   iv.ps⟩
theorem iv_cr0 {cc : Nat → Nat} {aa : Nat → Nat → Int32} (iv : IV cc aa) (q : Int32) (hq : x_ix (cc 3) q = true) (h : cc 28 < 6) : IV (uc cc 28 (cc 28 + 1)) (ua aa 29 (upd (aa 29) (cc 28) q)) :=
  ⟨iv.n0,
   iv.n2,
   iv.n3,
   iv.n7,
   iv.n8,
   iv.n16,
   iv.n20,
   h,
   iv.n31,
   iv.n38,
   iv.n45,
   iv.sq,
   iv.mv,
   iv.sz,
   iv.sg,
   iv.bl,
   iv.bs,
   iv.ki,
   iv.wo,
   iv.wh,
   iv.tm,
   iv.mk,
   iv.bk,
   iv.bn,
   x_ups (p := fun v => x_ix (cc 3) v = true) iv.cr hq,
   fun c h1 h2 => iv.fn c (Nat.le_of_succ_le h1) h2,
   iv.yn,
   fun i hi => x_ixs (iv.yc i hi),
   iv.ys,
   iv.yd,
   iv.yo,
   iv.ym,
   iv.yk,
   iv.ps⟩
theorem x_yo {cc : Nat → Nat} {aa : Nat → Nat → Int32} (iv : IV cc aa) : ∀ i j, i ≤ j → j < cc 31 + 1 → upd (aa 35) (cc 31) (nI (cc 2)) i ≤ upd (aa 35) (cc 31) (nI (cc 2)) j := by
  intro i j h1 h2
  have n2 := iv.n2
  by_cases e : j = cc 31
  · rw [e, pk_us]
    by_cases d : i = cc 31
    · rw [d, pk_us]
      exact Int32.le_refl _
    · rw [show upd (aa 35) (cc 31) (nI (cc 2)) i = aa 35 i from if_neg d]
      obtain ⟨x, x1, x2⟩ := iv.yd i (by omega)
      rw [x2, nI_leI (by omega) (by omega)]
      exact x1
  · rw [show upd (aa 35) (cc 31) (nI (cc 2)) j = aa 35 j from if_neg e, show upd (aa 35) (cc 31) (nI (cc 2)) i = aa 35 i from if_neg (by omega)]
    exact iv.yo i j h1 (by omega)
theorem iv_cry0 {cc : Nat → Nat} {aa : Nat → Nat → Int32} (iv : IV cc aa) (n c q r : Int32) (m ci : Nat) (cb : Bool) (hn : x_ix (cc 20) n = true) (hc : x_ix (cc 28) c = true) (hci : ci < cc 28) (hq : x_ix (cc 3) q = true) (hm : m < 1440) (h : cc 31 < 400) : IV (uc cc 31 (cc 31 + 1)) (ua (ua (ua (ua (ua (ua (ua (ua (aa) 32 (upd (aa 32) (cc 31) n)) 33 (upd (aa 33) (cc 31) c)) 34 (upd (aa 34) (cc 31) q)) 35 (upd (aa 35) (cc 31) (nI (cc 2)))) 36 (upd (aa 36) (cc 31) (nI m))) 37 (upd (aa 37) (cc 31) (am_bi cb))) 29 (upd (aa 29) ci q)) 30 (upd (aa 30) ci r)) :=
  ⟨iv.n0,
   iv.n2,
   iv.n3,
   iv.n7,
   iv.n8,
   iv.n16,
   iv.n20,
   iv.n28,
   h,
   iv.n38,
   iv.n45,
   iv.sq,
   iv.mv,
   iv.sz,
   iv.sg,
   iv.bl,
   iv.bs,
   iv.ki,
   iv.wo,
   iv.wh,
   iv.tm,
   iv.mk,
   iv.bk,
   iv.bn,
   fun i hi => (x_upa (p := fun i v => i < cc 28 → x_ix (cc 3) v = true) (fun i hi => iv.cr i hi) (fun _ => hq) i) hi,
   fun x h1 h2 => (show upd (aa 30) ci r x = aa 30 x from if_neg (fun e => Nat.lt_irrefl _ (Nat.lt_of_lt_of_le (e ▸ hci) h1))).trans (iv.fn x h1 h2),
   x_ups (p := fun v => x_ix (cc 20) v = true) iv.yn hn,
   x_ups (p := fun v => x_ix (cc 28) v = true) iv.yc hc,
   x_ups (p := fun v => x_ix (cc 3) v = true) iv.ys hq,
   x_ups (p := fun v => ∃ d, d ≤ cc 2 ∧ v = nI d) iv.yd ⟨cc 2, Nat.le_refl _, rfl⟩,
   x_yo iv,
   x_ups (p := fun v => ∃ m, m < 1440 ∧ v = nI m) iv.ym ⟨m, hm, rfl⟩,
   x_ups (p := fun v => v = 0 ∨ v = 1) iv.yk (show am_bi cb = 0 ∨ am_bi cb = 1 from match cb with | false => Or.inl rfl | true => Or.inr rfl),
   iv.ps⟩
theorem iv_pr0 {cc : Nat → Nat} {aa : Nat → Nat → Int32} (iv : IV cc aa) (p q d f t : Int32) (hq : x_ix (cc 3) q = true) (h : cc 38 < 60) : IV (uc cc 38 (cc 38 + 1)) (ua (ua (ua (ua (ua aa 39 (upd (aa 39) (cc 38) p)) 40 (upd (aa 40) (cc 38) q)) 41 (upd (aa 41) (cc 38) d)) 42 (upd (aa 42) (cc 38) f)) 43 (upd (aa 43) (cc 38) t)) :=
  ⟨iv.n0,
   iv.n2,
   iv.n3,
   iv.n7,
   iv.n8,
   iv.n16,
   iv.n20,
   iv.n28,
   iv.n31,
   h,
   iv.n45,
   iv.sq,
   iv.mv,
   iv.sz,
   iv.sg,
   iv.bl,
   iv.bs,
   iv.ki,
   iv.wo,
   iv.wh,
   iv.tm,
   iv.mk,
   iv.bk,
   iv.bn,
   iv.cr,
   iv.fn,
   iv.yn,
   iv.yc,
   iv.ys,
   iv.yd,
   iv.yo,
   iv.ym,
   iv.yk,
   x_ups (p := fun v => x_ix (cc 3) v = true) iv.ps hq⟩
theorem iv_rd0 {cc : Nat → Nat} {aa : Nat → Nat → Int32} (iv : IV cc aa) (v : Nat) (h : v ≤ 10) (f : Nat → Int32) : IV (uc cc 45 v) (ua aa 46 f) :=
  ⟨iv.n0,
   iv.n2,
   iv.n3,
   iv.n7,
   iv.n8,
   iv.n16,
   iv.n20,
   iv.n28,
   iv.n31,
   iv.n38,
   h,
   iv.sq,
   iv.mv,
   iv.sz,
   iv.sg,
   iv.bl,
   iv.bs,
   iv.ki,
   iv.wo,
   iv.wh,
   iv.tm,
   iv.mk,
   iv.bk,
   iv.bn,
   iv.cr,
   iv.fn,
   iv.yn,
   iv.yc,
   iv.ys,
   iv.yd,
   iv.yo,
   iv.ym,
   iv.yk,
   iv.ps⟩
theorem iv_a44 {cc : Nat → Nat} {aa : Nat → Nat → Int32} (iv : IV cc aa) (f : Nat → Int32) : IV (cc) (ua aa 44 f) :=
  ⟨iv.n0,
   iv.n2,
   iv.n3,
   iv.n7,
   iv.n8,
   iv.n16,
   iv.n20,
   iv.n28,
   iv.n31,
   iv.n38,
   iv.n45,
   iv.sq,
   iv.mv,
   iv.sz,
   iv.sg,
   iv.bl,
   iv.bs,
   iv.ki,
   iv.wo,
   iv.wh,
   iv.tm,
   iv.mk,
   iv.bk,
   iv.bn,
   iv.cr,
   iv.fn,
   iv.yn,
   iv.yc,
   iv.ys,
   iv.yd,
   iv.yo,
   iv.ym,
   iv.yk,
   iv.ps⟩
theorem x_rl_f1 (f : Nat → Bool) : ∀ n i, x_rl f i n ≤ x_rl f i (n + 1)
  | 0, _ => Nat.zero_le _
  | n + 1, i => by
    show (if f i = true then x_rl f (i + 1) n + 1 else 0) ≤ (if f i = true then x_rl f (i + 1) (n + 1) + 1 else 0)
    split
    · exact Nat.succ_le_succ (x_rl_f1 f n (i + 1))
    · exact Nat.le_refl _
def x_nw (aa : Nat → Nat → Int32) (s i : Nat) : Nat := if x_pc aa s i = 0 then 0 else if x_in (x_sg aa s i) 48 57 = true then (x_pc aa s i + 2) / 3 else 1
def x_ns (f : Nat → Nat) : Nat → Nat
  | 0 => 0
  | n + 1 => x_ns f n + f n
theorem x_nw_le (aa : Nat → Nat → Int32) (s i : Nat) : x_nw aa s i ≤ x_pc aa s i := by
  unfold x_nw
  split
  · omega
  · split <;> omega
theorem x_wf_n (aa : Nat → Nat → Int32) (s i : Nat) : x_wf aa s i = nI (x_nw aa s i) := by
  unfold x_wf x_nw
  split
  · rfl
  · split <;> rfl
theorem x_ws_n (aa : Nat → Nat → Int32) (s : Nat) : ∀ n, x_sum (x_wf aa s) n = nI (x_ns (x_nw aa s) n)
  | 0 => rfl
  | n + 1 => by
    rw [x_sum_s, x_ws_n aa s n, x_wf_n, nI_add]
    rfl
theorem x_ns_le (aa : Nat → Nat → Int32) (s : Nat) : ∀ k, x_ns (x_nw aa s) k ≤ k + (if 0 < k ∧ x_sf aa s (k - 1) = true then x_rl (x_sf aa s) k 81 else 0)
  | 0 => Nat.zero_le _
  | k + 1 => by
    have ih := x_ns_le aa s k
    have h1 := x_nw_le aa s k
    have h2 : x_rl (x_sf aa s) k 81 = if x_sf aa s k = true then x_rl (x_sf aa s) (k + 1) 80 + 1 else 0 := rfl
    have h3 : x_rl (x_sf aa s) (k + 1) 80 ≤ x_rl (x_sf aa s) (k + 1) 81 := x_rl_f1 (x_sf aa s) 80 (k + 1)
    show x_ns (x_nw aa s) k + x_nw aa s k ≤ k + 1 + (if 0 < k + 1 ∧ x_sf aa s (k + 1 - 1) = true then x_rl (x_sf aa s) (k + 1) 81 else 0)
    rw [Nat.add_sub_cancel]
    unfold x_pc x_pl at h1
    by_cases c : x_sf aa s k = true
    · rw [if_pos c] at h2
      rw [if_pos ⟨by omega, c⟩]
      by_cases d : 0 < k ∧ x_sf aa s (k - 1) = true
      · rw [if_pos d] at ih h1
        omega
      · rw [if_neg d] at ih h1
        omega
    · rw [if_neg c] at h2
      rw [if_neg (fun e => c e.2)]
      by_cases d : 0 < k ∧ x_sf aa s (k - 1) = true
      · rw [if_pos d] at ih h1
        omega
      · rw [if_neg d] at ih h1
        omega
theorem x_wo_n {aa : Nat → Nat → Int32} {s z : Nat} (hz : z ≤ 80) (ez : aa 13 s = nI z) : ∃ w, w ≤ 80 ∧ x_wo aa s = nI w := by
  have hzz : tn (aa 13 s) = z := by rw [ez]; exact nI_clamp (by omega)
  refine ⟨x_ns (x_nw aa s) z, ?_, ?_⟩
  · have h1 := x_ns_le aa s z
    have h2 : x_rl (x_sf aa s) z 81 = if x_sf aa s z = true then x_rl (x_sf aa s) (z + 1) 80 + 1 else 0 := rfl
    rw [x_sf_o aa s hzz z (Nat.le_refl _), if_neg (by decide)] at h2
    rw [h2] at h1
    split at h1 <;> omega
  · unfold x_wo
    rw [hzz, x_ws_n]
theorem x_bt_bl (aa : Nat → Nat → Int32) (s : Nat) : ∀ i b, b < (x_bt aa s i).1 → ∃ n, 0 < n ∧ n ≤ 12 ∧ (x_bt aa s i).2.1 b = nI n
  | 0, b, h => by cases h
  | i + 1, b, h => by
    have ih := x_bt_bl aa s i
    rw [x_bt_s] at h ⊢
    unfold x_bs at h ⊢
    by_cases c : 0 < x_pc aa s i ∧ x_pc aa s i ≤ 12 ∧ (x_bt aa s i).1 < 16
    · rw [if_pos c] at h ⊢
      exact x_ups (p := fun v => ∃ n, 0 < n ∧ n ≤ 12 ∧ v = nI n) ih ⟨_, c.1, c.2.1, rfl⟩ b h
    · rw [if_neg c] at h ⊢
      exact ih b h
theorem x_bt_bs {cc : Nat → Nat} {aa : Nat → Nat → Int32} (iv : IV cc aa) (s : Nat) : ∀ i k, x_byte ((x_bt aa s i).2.2 k)
  | 0, k => iv.bs k
  | i + 1, k => by
    have ih := x_bt_bs iv s i
    rw [x_bt_s]
    unfold x_bs
    split
    · show x_byte (if 12 * (x_bt aa s i).1 ≤ k ∧ k < 12 * (x_bt aa s i).1 + x_pc aa s i then x_small (x_sg aa s (i + (k - 12 * (x_bt aa s i).1))) else (x_bt aa s i).2.2 k)
      split
      · exact x_byte_small (x_byte_sg iv s _)
      · exact ih k
    · exact ih k
theorem x_rt_le (aa : Nat → Nat → Int32) (m s f : Nat) (r : Nat → Int32) : ∀ k, (x_rt aa m s f r k).2.2.1 ≤ k
  | 0 => Nat.le_refl _
  | k + 1 => by
    have ih := x_rt_le aa m s f r k
    rw [x_rt_s]
    unfold x_rs
    split
    · omega
    · show (x_rt aa m s f r k).2.2.1 + 1 ≤ k + 1
      omega
theorem x_in_lo {v : Int32} {lo hi : Nat} (h : x_in v (nI lo) (nI hi) = true) (hh : hi < 2 ^ 31) (hl : lo < 2 ^ 31) : ∃ j, lo ≤ j ∧ j ≤ hi ∧ v = nI j := by
  unfold x_in at h
  rw [← Bool.decide_and] at h
  have h1 := of_decide_eq_true h
  rw [Int32.le_iff_toInt_le, Int32.le_iff_toInt_le, nI_toInt hh, nI_toInt hl] at h1
  refine ⟨v.toInt.toNat, by omega, by omega, ?_⟩
  apply Int32.toInt_inj.mp
  rw [nI_toInt (by omega)]
  omega
theorem iv_S_square {cc : Nat → Nat} {aa : Nat → Nat → Int32} (iv : IV cc aa) (x y w : Int32) : IV (S_square cc aa x y w).2.1 (S_square cc aa x y w).2.2 := by
  unfold S_square
  split
  · rename_i c
    split
    · exact iv
    · rename_i d
      have n3 := iv.n3
      obtain ⟨i, hi, rfl⟩ := x_in_n (b := 60) c.1 (by decide)
      obtain ⟨j, hj, rfl⟩ := x_in_n (b := 60) c.2.1 (by decide)
      exact iv_sq0 iv i j w hi hj (by omega)
  · exact iv
theorem iv_S_hearing {cc : Nat → Nat} {aa : Nat → Nat → Int32} (iv : IV cc aa) (n : Int32) : IV (S_hearing cc aa n).2.1 (S_hearing cc aa n).2.2 := by
  unfold S_hearing
  split
  · rename_i c
    split
    · exact iv
    · obtain ⟨j, hj, rfl⟩ := x_in_n (b := 60) c (by decide)
      exact iv_hear0 iv _ (by show (nI j).toNatClampNeg ≤ 60; rw [nI_clamp (by omega)]; exact hj)
  · exact iv
theorem iv_S_later {cc : Nat → Nat} {aa : Nat → Nat → Int32} (iv : IV cc aa) (n : Int32) : IV (S_later cc aa n).2.1 (S_later cc aa n).2.2 := by
  unfold S_later
  split
  · rename_i c
    obtain ⟨k, hk1, hk2, rfl⟩ := x_later iv.n2 c
    have e : tn (nI k) = k := nI_clamp (by omega)
    rw [e]
    exact iv_lat0 iv (cc 2 + k) (Nat.le_add_right _ _) hk2
  · exact iv
theorem iv_S_move {cc : Nat → Nat} {aa : Nat → Nat → Int32} (iv : IV cc aa) (s x y z : Int32) : IV (S_move cc aa s x y z).2.1 (S_move cc aa s x y z).2.2 := by
  unfold S_move
  split
  · rename_i c
    split
    · exact iv
    · rename_i d
      have n8 := iv.n8
      split
      · exact iv_mv0 iv s x y z c.1 (by omega)
      · exact iv
  · exact iv
theorem iv_S_sheet {cc : Nat → Nat} {aa : Nat → Nat → Int32} (iv : IV cc aa) (s n : Int32) : IV (S_sheet cc aa s n).2.1 (S_sheet cc aa s n).2.2 := by
  unfold S_sheet
  split
  · rename_i c
    split
    · rename_i d
      obtain ⟨j, hj, rfl⟩ := nI_of (Int32.not_lt.mpr d)
      exact iv_sh0 iv (tn s) j ((nI_leI hj (by decide)).mp c.2)
    · exact iv_M iv 5 (by decide)
  · exact iv
theorem iv_S_lay {cc : Nat → Nat} {aa : Nat → Nat → Int32} (iv : IV cc aa) (s i c : Int32) : IV (S_lay cc aa s i c).2.1 (S_lay cc aa s i c).2.2 := by
  unfold S_lay
  split
  · split
    · exact iv_M iv 1 (by decide)
    · split
      · exact iv_lay0 iv _ c
      · exact iv_M iv 2 (by decide)
  · exact iv
theorem iv_S_tear {cc : Nat → Nat} {aa : Nat → Nat → Int32} (iv : IV cc aa) (s : Int32) : IV (S_tear cc aa s).2.1 (S_tear cc aa s).2.2 := by
  unfold S_tear
  split
  · split
    · exact iv_M iv 1 (by decide)
    · exact iv_tear0 iv _
  · exact iv
theorem iv_S_copy {cc : Nat → Nat} {aa : Nat → Nat → Int32} (iv : IV cc aa) (s i t j n : Int32) : IV (S_copy cc aa s i t j n).2.1 (S_copy cc aa s i t j n).2.2 := by
  unfold S_copy
  split
  · split
    · split
      · exact iv_M iv 1 (by decide)
      · split
        · exact iv_copy0 iv _ _ _ _
        · exact iv_M iv 2 (by decide)
    · exact iv_M iv 5 (by decide)
  · exact iv
theorem iv_S_words {cc : Nat → Nat} {aa : Nat → Nat → Int32} (iv : IV cc aa) (s : Int32) : IV (S_words cc aa s).2.1 (S_words cc aa s).2.2 := by
  unfold S_words
  split
  · split
    · exact iv_M iv 1 (by decide)
    · exact iv
  · exact iv
theorem iv_S_barred {cc : Nat → Nat} {aa : Nat → Nat → Int32} (iv : IV cc aa) (s : Int32) : IV (S_barred cc aa s).2.1 (S_barred cc aa s).2.2 := by
  unfold S_barred
  split
  · split
    · exact iv_M iv 1 (by decide)
    · exact iv
  · exact iv
theorem iv_S_bar {cc : Nat → Nat} {aa : Nat → Nat → Int32} (iv : IV cc aa) (s : Int32) : IV (S_bar cc aa s).2.1 (S_bar cc aa s).2.2 := by
  unfold S_bar
  split
  · split
    · exact iv_M iv 1 (by decide)
    · exact iv_bar0 iv _ _ _ (x_bt_16 aa _ _) (x_bt_bl aa _ _) (x_bt_bs iv _ _)
  · exact iv
theorem iv_S_rate {cc : Nat → Nat} {aa : Nat → Nat → Int32} (iv : IV cc aa) (k r : Int32) : IV (S_rate cc aa k r).2.1 (S_rate cc aa k r).2.2 := by
  unfold S_rate
  split
  · exact iv_rate0 iv _
  · exact iv
theorem iv_S_notice {cc : Nat → Nat} {aa : Nat → Nat → Int32} (iv : IV cc aa) (k s q t m : Int32) : IV (S_notice cc aa k s q t m).2.1 (S_notice cc aa k s q t m).2.2 := by
  unfold S_notice
  split
  · rename_i c
    split
    · exact iv
    · rename_i d
      have n20 := iv.n20
      split
      · exact iv_M iv 1 (by decide)
      · rename_i hz
        split
        · exact iv
        · split
          · exact iv_M iv 5 (by decide)
          · rename_i hw
            obtain ⟨k, hk, rfl⟩ := x_in_n (b := 5) c.1 (by decide)
            obtain ⟨j, hj, rfl⟩ := x_in_n (b := 3) c.2.1 (by decide)
            have e : tn (nI j) = j := nI_clamp (by omega)
            rw [e] at hz hw ⊢
            obtain ⟨z, hz8, ez⟩ := (iv.sz j (by omega)).resolve_left (fun e => hz (by rw [e]; decide))
            obtain ⟨w, hw8, ew⟩ := x_wo_n hz8 ez
            obtain ⟨qq, hqq, rfl⟩ := x_arq_e iv.n3 c.2.2.2.1
            obtain ⟨tt, ht1, ht9, rfl⟩ := x_in_lo (lo := 1) (hi := 9) c.2.2.2.2.1 (by decide) (by decide)
            obtain ⟨mm, hmm, rfl⟩ := x_in_n (b := 65535) c.2.2.2.2.2 (by decide)
            rw [ew] at hw ⊢
            have hw0 : 0 < w := by
              rcases Nat.eq_zero_or_pos w with rfl | h
              · exact absurd rfl hw
              · exact h
            have et : (if x_fits (nI k) 1 = true then (3 : Int32) else nI tt) = nI (if x_fits (nI k) 1 = true then 3 else tt) := by split <;> rfl
            have em : (if x_fits (nI k) 4 = true then nI mm else (0 : Int32)) = nI (if x_fits (nI k) 4 = true then mm else 0) := by split <;> rfl
            rw [et, em]
            exact iv_no0 iv k w qq _ _ _ (by omega) ⟨hw0, by omega⟩ hqq (by split <;> omega) (by split <;> omega) (by omega)
  · exact iv
theorem iv_S_mark {cc : Nat → Nat} {aa : Nat → Nat → Int32} (iv : IV cc aa) (n k : Int32) : IV (S_mark cc aa n k).2.1 (S_mark cc aa n k).2.2 := by
  unfold S_mark
  split
  · split
    · exact iv
    · exact iv_M iv 3 (by decide)
  · exact iv
theorem iv_S_mean {cc : Nat → Nat} {aa : Nat → Nat → Int32} (iv : IV cc aa) : IV (S_mean cc aa ).2.1 (S_mean cc aa ).2.2 := by
  unfold S_mean
  split
  · exact iv_M iv 4 (by decide)
  · exact iv
theorem iv_S_back {cc : Nat → Nat} {aa : Nat → Nat → Int32} (iv : IV cc aa) (n : Int32) : IV (S_back cc aa n).2.1 (S_back cc aa n).2.2 := by
  unfold S_back
  split
  · rename_i c
    split
    · obtain ⟨j, hj, rfl⟩ := x_ix_i c
      have n20 := iv.n20
      have e : tn (nI j) = j := nI_clamp (by omega)
      rw [e]
      exact iv_back0 iv j hj
    · exact iv
  · exact iv
theorem iv_S_crier {cc : Nat → Nat} {aa : Nat → Nat → Int32} (iv : IV cc aa) (q : Int32) : IV (S_crier cc aa q).2.1 (S_crier cc aa q).2.2 := by
  unfold S_crier
  split
  · rename_i c
    split
    · exact iv
    · rename_i d
      have n28 := iv.n28
      exact iv_cr0 iv q c (by omega)
  · exact iv
theorem iv_S_cry {cc : Nat → Nat} {aa : Nat → Nat → Int32} (iv : IV cc aa) (n c q m : Int32) : IV (S_cry cc aa n c q m).2.1 (S_cry cc aa n c q m).2.2 := by
  unfold S_cry
  split
  · rename_i d
    split
    · exact iv
    · rename_i e
      have n31 := iv.n31
      split
      · split
        · exact iv
        · obtain ⟨mm, hmm, rfl⟩ := x_in_n (b := 1439) d.2.2.2 (by decide)
          obtain ⟨j, hj, rfl⟩ := x_ix_i d.2.1
          have n28 := iv.n28
          exact iv_cry0 iv n (nI j) q _ mm (tn (nI j)) _ d.1 d.2.1 (by show (nI j).toNatClampNeg < cc 28; rw [nI_clamp (by omega)]; exact hj) d.2.2.1 (by omega) (by omega)
      · exact iv
  · exact iv
theorem iv_S_present {cc : Nat → Nat} {aa : Nat → Nat → Int32} (iv : IV cc aa) (p q f t : Int32) : IV (S_present cc aa p q f t).2.1 (S_present cc aa p q f t).2.2 := by
  unfold S_present
  split
  · rename_i c
    split
    · exact iv
    · have n38 := iv.n38
      rename_i d
      exact iv_pr0 iv p q _ f t c.2.1 (by omega)
  · exact iv
theorem iv_S_round {cc : Nat → Nat} {aa : Nat → Nat → Int32} (iv : IV cc aa) (c s : Int32) : IV (S_round cc aa c s).2.1 (S_round cc aa c s).2.2 := by
  unfold S_round
  split
  · have h : (x_R cc aa c s).2.2.1 ≤ 10 := by
      unfold x_R
      exact x_rt_le aa _ _ _ _ 10
    generalize x_R cc aa c s = R at h ⊢
    exact iv_rd0 iv R.2.2.1 h R.2.2.2
  · exact iv
theorem iv_S_joined {cc : Nat → Nat} {aa : Nat → Nat → Int32} (iv : IV cc aa) (n k i : Int32) : IV (S_joined cc aa n k i).2.1 (S_joined cc aa n k i).2.2 := by
  unfold S_joined
  split
  · split
    · exact iv
    · exact iv_M iv 3 (by decide)
  · exact iv
