/-! the reference's tests and small sums -/
abbrev tn (s : Int32) : Nat := s.toNatClampNeg
def x_in (v lo hi : Int32) : Bool := decide (lo ≤ v) && decide (v ≤ hi)
def x_has (w k : Int32) : Bool := decide ((w >>> (k &&& 31)) &&& 1 = 1)
def x_ix (n : Nat) (s : Int32) : Bool := decide (0 ≤ s.toInt ∧ s.toInt < n)
theorem x_ix_i {n : Nat} {s : Int32} (h : x_ix n s = true) : ∃ j, j < n ∧ s = nI j := by
  have h1 := of_decide_eq_true h
  refine ⟨s.toInt.toNat, by omega, ?_⟩
  apply Int32.toInt_inj.mp
  have h2 := s.toInt_lt
  rw [nI_toInt (by omega)]
  omega
theorem x_ix_n {n j : Nat} (hj : j < n) (hn : n < 2 ^ 31) : x_ix n (nI j) = true := by
  apply decide_eq_true
  rw [nI_toInt (by omega)]
  omega
theorem x_ix_o {n j : Nat} (hj : n ≤ j) (hn : j < 2 ^ 31) : x_ix n (nI j) = false := by
  apply decide_eq_false
  rw [nI_toInt (by omega)]
  omega
theorem x_ix_m {n m : Nat} {s : Int32} (h : x_ix n s = true) (hm : n ≤ m) : x_ix m s = true := by
  have h1 := of_decide_eq_true h
  exact decide_eq_true (by omega)
theorem am_outx {n : Nat} {s : Int32} (h : x_ix n s = true) (hn : n < 2 ^ 31) : am_outb s n = false := by
  obtain ⟨j, hj, rfl⟩ := x_ix_i h
  exact am_inb hj hn
theorem am_outm {n m : Nat} {s : Int32} (h : x_ix n s = true) (hm : n ≤ m) (hn : m < 2 ^ 31) : am_outb s m = false := am_outx (x_ix_m h hm) hn
theorem x_in_ix {n : Nat} (hn : n < 2 ^ 31) (s : Int32) : x_in s 0 (nI n - 1) = x_ix n s := by
  unfold x_in x_ix
  rw [← Bool.decide_and]
  apply decide_eq_decide.mpr
  rw [Int32.le_iff_toInt_le, Int32.le_iff_toInt_le]
  have e : (nI n - 1).toInt = (n : Int) - 1 := by
    rcases Nat.eq_zero_or_pos n with rfl | h0
    · decide
    · rw [show (1 : Int32) = nI 1 from rfl, pk_sub h0, nI_toInt (by omega)]
      omega
  rw [e]
  simp only [show (0 : Int32).toInt = 0 from rfl]
  omega
theorem x_in_t {v lo hi : Int32} (h1 : ¬ v < lo) (h2 : ¬ hi < v) : x_in v lo hi = true := by
  unfold x_in
  rw [decide_eq_true (Int32.not_lt.mp h1), decide_eq_true (Int32.not_lt.mp h2)]
  rfl
theorem x_in_f1 {v lo hi : Int32} (h1 : v < lo) : x_in v lo hi = false := by
  unfold x_in
  rw [decide_eq_false (Int32.not_le.mpr h1)]
  rfl
theorem x_in_f2 {v lo hi : Int32} (h2 : hi < v) : x_in v lo hi = false := by
  unfold x_in
  rw [decide_eq_false (Int32.not_le.mpr h2), Bool.and_false]
/-- a number within, as a natural -/
theorem x_in_n {s : Int32} {b : Nat} (h : x_in s 0 (nI b) = true) (hb : b < 2 ^ 31) : ∃ j, j ≤ b ∧ s = nI j := by
  unfold x_in at h
  rw [← Bool.decide_and] at h
  have h1 := of_decide_eq_true h
  rw [Int32.le_iff_toInt_le, Int32.le_iff_toInt_le, nI_toInt hb] at h1
  simp only [show (0 : Int32).toInt = 0 from rfl] at h1
  refine ⟨s.toInt.toNat, by omega, ?_⟩
  apply Int32.toInt_inj.mp
  rw [nI_toInt (by omega)]
  omega
theorem x_in_m {j a b : Nat} (ha : a < 2 ^ 31) (hb : b < 2 ^ 31) (hj : j < 2 ^ 31) : x_in (nI j) (nI a) (nI b) = decide (a ≤ j ∧ j ≤ b) := by
  unfold x_in
  rw [← Bool.decide_and]
  apply decide_eq_decide.mpr
  rw [nI_leI ha hj, nI_leI hj hb]
/-- a switch's cases -/
theorem x_sw (x : Int32) (lo hi : Nat) (h1 : lo ≤ hi) (h2 : hi < 2 ^ 31) : (x.toInt < (lo : Int) ∨ (hi : Int) < x.toInt) ∨ ∃ j, lo ≤ j ∧ j ≤ hi ∧ x = nI j := by
  by_cases c : x.toInt < (lo : Int) ∨ (hi : Int) < x.toInt
  · exact Or.inl c
  · refine Or.inr ⟨x.toInt.toNat, by omega, by omega, ?_⟩
    apply Int32.toInt_inj.mp
    rw [nI_toInt (by omega)]
    omega
/-! loops -/
theorem am_lp {P : Nat → Prop} {n : Nat} (hs : ∀ i, i ≤ n → (i < n → P (i + 1)) → P i) : ∀ i, i ≤ n → P i := by
  intro i hi
  obtain ⟨d, hd⟩ : ∃ d, i + d = n := ⟨n - i, by omega⟩
  induction d generalizing i with
  | zero => exact hs i hi (fun c => by omega)
  | succ d ih => exact hs i hi (fun c => ih (i + 1) (by omega) (by omega))
theorem am_wp_l {mi pc : Nat} {ls ls' : am_L} {st : List Value} {h : am_H} {Q : Option Value → am_H → Prop} (e : ls' = ls) (w : am_wp mi (pc, ls', st) h Q) : am_wp mi (pc, ls, st) h Q := e ▸ w
theorem am_cons {α : Type} {a b : α} {l l' : List α} (e : a = b) (e2 : l = l') : a :: l = b :: l' := by rw [e, e2]
theorem am_si {x y : Int32} (e : x = y) : some (Value.int x) = some (Value.int y) := by rw [e]
theorem am_sl8 {x y : Int64} (e : x = y) : some (Value.long x) = some (Value.long y) := by rw [e]
def x_it {α : Type} (g : Nat → α → α) (a : α) : Nat → α
  | 0 => a
  | n + 1 => g n (x_it g a n)
def x_sum (f : Nat → Int32) : Nat → Int32
  | 0 => 0
  | n + 1 => x_sum f n + f n
theorem x_sum_s (f : Nat → Int32) (n : Nat) : x_sum f (n + 1) = x_sum f n + f n := rfl
theorem x_it_s {α : Type} (g : Nat → α → α) (a : α) (n : Nat) : x_it g a (n + 1) = g n (x_it g a n) := rfl
def x_any (p : Nat → Bool) : Nat → Bool
  | 0 => false
  | n + 1 => x_any p n || p n
theorem x_any_s (p : Nat → Bool) (n : Nat) : x_any p (n + 1) = (x_any p n || p n) := rfl
theorem x_any_t {p : Nat → Bool} {i : Nat} (h : p i = true) : ∀ n, i < n → x_any p n = true
  | 0, c => by omega
  | n + 1, c => by
    rw [x_any_s]
    by_cases e : i = n
    · subst e
      rw [h, Bool.or_true]
    · rw [x_any_t h n (by omega), Bool.true_or]
theorem am_bi_t : am_bi true = 1 := rfl
theorem am_bi_f : am_bi false = 0 := rfl
section AMI
variable {mi pc pc' t a b q : Nat} {z : Int} {ls ls' : am_L} {st : List Value} {h : am_H} {Q : Option Value → am_H → Prop} {x y : Nat}
theorem w_ifeqN {off : Int} (hf : am_S mi pc pc' (.ifCond .eq off, a, b, q, z)) (ht : am_tg pc off = some t) (hx : x < 2 ^ 31) (kt : x = 0 → am_wp mi (t, ls, st) h Q) (kf : ¬ x = 0 → am_wp mi (pc', ls, st) h Q) : am_wp mi (pc, ls, .int (nI x) :: st) h Q := w_ifeq hf ht (fun c => kt ((nI_eq hx (by decide)).mp (c.trans nI_0.symm))) (fun c => kf (fun d => c (by rw [d]; rfl)))
theorem w_ifneN {off : Int} (hf : am_S mi pc pc' (.ifCond .ne off, a, b, q, z)) (ht : am_tg pc off = some t) (hx : x < 2 ^ 31) (kt : ¬ x = 0 → am_wp mi (t, ls, st) h Q) (kf : x = 0 → am_wp mi (pc', ls, st) h Q) : am_wp mi (pc, ls, .int (nI x) :: st) h Q := w_ifne hf ht (fun c => kt (fun d => c (by rw [d]; rfl))) (fun c => kf ((nI_eq hx (by decide)).mp (c.trans nI_0.symm)))
theorem w_ifgtN {off : Int} (hf : am_S mi pc pc' (.ifCond .gt off, a, b, q, z)) (ht : am_tg pc off = some t) (hx : x < 2 ^ 31) (kt : 0 < x → am_wp mi (t, ls, st) h Q) (kf : x = 0 → am_wp mi (pc', ls, st) h Q) : am_wp mi (pc, ls, .int (nI x) :: st) h Q := w_ifgt hf ht (fun c => kt (by
  rcases Nat.eq_zero_or_pos x with d | d
  · subst d
    exact absurd c (by decide)
  · exact d)) (fun c => kf (by
  rcases Nat.eq_zero_or_pos x with d | d
  · exact d
  · exact absurd (nI_lt d hx) c))
theorem w_ifleN {off : Int} (hf : am_S mi pc pc' (.ifCond .le off, a, b, q, z)) (ht : am_tg pc off = some t) (hx : x < 2 ^ 31) (kt : x = 0 → am_wp mi (t, ls, st) h Q) (kf : 0 < x → am_wp mi (pc', ls, st) h Q) : am_wp mi (pc, ls, .int (nI x) :: st) h Q := w_ifle hf ht (fun c => kt (by
  rcases Nat.eq_zero_or_pos x with d | d
  · exact d
  · exact absurd c (nI_nle d hx))) (fun c => kf (by
  rcases Nat.eq_zero_or_pos x with d | d
  · subst d
    exact absurd (show (nI 0) ≤ 0 from by decide) c
  · exact d))
theorem w_ialdV {n : Nat} {f : Nat → Int32} {v : Int32} (hf : am_S mi pc pc' (.iaload, a, b, q, z)) (hh : h[x]? = some (.inl (0, n, .inl f))) (hj : y < n) (hn : n < 2 ^ 31) (hv : f y = v) (k : am_wp mi (pc', ls, .int v :: st) h Q) : am_wp mi (pc, ls, .int (nI y) :: .ref x :: st) h Q := w_ialdN hf hh hj hn (by rw [hv]; exact k)
theorem w_baldV {n r : Nat} {f : Nat → Int32} {v : Int32} (hf : am_S mi pc pc' (.baload, a, b, q, z)) (hh : h[x]? = some (.inl (r, n, .inl f))) (ht : r = 1 ∨ r = 2) (hj : y < n) (hn : n < 2 ^ 31) (hv : f y = v) (k : am_wp mi (pc', ls, .int v :: st) h Q) : am_wp mi (pc, ls, .int (nI y) :: .ref x :: st) h Q := w_baldN hf hh ht hj hn (by rw [hv]; exact k)
end AMI
/-! the state that class and reference share: what holds of it always -/
def x_byte (v : Int32) : Prop := v.toInt8.toInt32 = v
def IV (cc : Nat → Nat) (aa : Nat → Nat → Int32) : Prop :=
  (cc 0 ≤ 5) ∧
  (cc 2 ≤ 400) ∧
  (cc 3 ≤ 10) ∧
  (cc 7 ≤ 60) ∧
  (cc 8 ≤ 40) ∧
  (cc 16 ≤ 16) ∧
  (cc 20 ≤ 40) ∧
  (cc 28 ≤ 6) ∧
  (cc 31 ≤ 400) ∧
  (cc 38 ≤ 60) ∧
  (cc 45 ≤ 10) ∧
  (∀ i, i < cc 3 → (∃ x, x ≤ 60 ∧ aa 4 i = nI x) ∧ (∃ y, y ≤ 60 ∧ aa 5 i = nI y)) ∧
  (∀ i, i < cc 8 → x_ix (cc 3) (aa 9 i) = true) ∧
  (∀ s, s < 4 → aa 13 s = -9 ∨ ∃ z, z ≤ 80 ∧ aa 13 s = nI z) ∧
  (∀ k, x_byte (aa 14 k)) ∧
  (∀ b, b < cc 16 → ∃ n, 0 < n ∧ n ≤ 12 ∧ aa 17 b = nI n) ∧
  (∀ k, x_byte (aa 18 k)) ∧
  (∀ n, n < cc 20 → ∃ k, k < 6 ∧ aa 21 n = nI k) ∧
  (∀ n, n < cc 20 → ∃ w, 0 < w ∧ w ≤ 100 ∧ aa 22 n = nI w) ∧
  (∀ n, n < cc 20 → ∃ w, w < 2 ^ cc 3 ∧ aa 23 n = nI w) ∧
  (∀ n, n < cc 20 → ∃ t, 0 < t ∧ t ≤ 9 ∧ aa 24 n = nI t) ∧
  (∀ n, n < cc 20 → ∃ m, m < 65536 ∧ aa 25 n = nI m) ∧
  (∀ n, n < 40 → aa 27 n = 0 ∨ aa 27 n = 1) ∧
  (∀ n, cc 20 ≤ n → n < 40 → aa 27 n = 0) ∧
  (∀ c, c < cc 28 → x_ix (cc 3) (aa 29 c) = true) ∧
  (∀ c, cc 28 ≤ c → c < 6 → aa 30 c = 0) ∧
  (∀ i, i < cc 31 → x_ix (cc 20) (aa 32 i) = true) ∧
  (∀ i, i < cc 31 → x_ix (cc 28) (aa 33 i) = true) ∧
  (∀ i, i < cc 31 → x_ix (cc 3) (aa 34 i) = true) ∧
  (∀ i, i < cc 31 → ∃ d, d ≤ cc 2 ∧ aa 35 i = nI d) ∧
  (∀ i j, i ≤ j → j < cc 31 → aa 35 i ≤ aa 35 j) ∧
  (∀ i, i < cc 31 → ∃ m, m < 1440 ∧ aa 36 i = nI m) ∧
  (∀ i, i < cc 31 → aa 37 i = 0 ∨ aa 37 i = 1) ∧
  (∀ k, k < cc 38 → x_ix (cc 3) (aa 40 k) = true)
theorem IV.n0 {cc : Nat → Nat} {aa : Nat → Nat → Int32} (iv : IV cc aa) : cc 0 ≤ 5 := iv.1
theorem IV.n2 {cc : Nat → Nat} {aa : Nat → Nat → Int32} (iv : IV cc aa) : cc 2 ≤ 400 := iv.2.1
theorem IV.n3 {cc : Nat → Nat} {aa : Nat → Nat → Int32} (iv : IV cc aa) : cc 3 ≤ 10 := iv.2.2.1
theorem IV.n7 {cc : Nat → Nat} {aa : Nat → Nat → Int32} (iv : IV cc aa) : cc 7 ≤ 60 := iv.2.2.2.1
theorem IV.n8 {cc : Nat → Nat} {aa : Nat → Nat → Int32} (iv : IV cc aa) : cc 8 ≤ 40 := iv.2.2.2.2.1
theorem IV.n16 {cc : Nat → Nat} {aa : Nat → Nat → Int32} (iv : IV cc aa) : cc 16 ≤ 16 := iv.2.2.2.2.2.1
theorem IV.n20 {cc : Nat → Nat} {aa : Nat → Nat → Int32} (iv : IV cc aa) : cc 20 ≤ 40 := iv.2.2.2.2.2.2.1
theorem IV.n28 {cc : Nat → Nat} {aa : Nat → Nat → Int32} (iv : IV cc aa) : cc 28 ≤ 6 := iv.2.2.2.2.2.2.2.1
theorem IV.n31 {cc : Nat → Nat} {aa : Nat → Nat → Int32} (iv : IV cc aa) : cc 31 ≤ 400 := iv.2.2.2.2.2.2.2.2.1
theorem IV.n38 {cc : Nat → Nat} {aa : Nat → Nat → Int32} (iv : IV cc aa) : cc 38 ≤ 60 := iv.2.2.2.2.2.2.2.2.2.1
theorem IV.n45 {cc : Nat → Nat} {aa : Nat → Nat → Int32} (iv : IV cc aa) : cc 45 ≤ 10 := iv.2.2.2.2.2.2.2.2.2.2.1
theorem IV.sq {cc : Nat → Nat} {aa : Nat → Nat → Int32} (iv : IV cc aa) : ∀ i, i < cc 3 → (∃ x, x ≤ 60 ∧ aa 4 i = nI x) ∧ (∃ y, y ≤ 60 ∧ aa 5 i = nI y) := iv.2.2.2.2.2.2.2.2.2.2.2.1
theorem IV.mv {cc : Nat → Nat} {aa : Nat → Nat → Int32} (iv : IV cc aa) : ∀ i, i < cc 8 → x_ix (cc 3) (aa 9 i) = true := iv.2.2.2.2.2.2.2.2.2.2.2.2.1
theorem IV.sz {cc : Nat → Nat} {aa : Nat → Nat → Int32} (iv : IV cc aa) : ∀ s, s < 4 → aa 13 s = -9 ∨ ∃ z, z ≤ 80 ∧ aa 13 s = nI z := iv.2.2.2.2.2.2.2.2.2.2.2.2.2.1
theorem IV.sg {cc : Nat → Nat} {aa : Nat → Nat → Int32} (iv : IV cc aa) : ∀ k, x_byte (aa 14 k) := iv.2.2.2.2.2.2.2.2.2.2.2.2.2.2.1
theorem IV.bl {cc : Nat → Nat} {aa : Nat → Nat → Int32} (iv : IV cc aa) : ∀ b, b < cc 16 → ∃ n, 0 < n ∧ n ≤ 12 ∧ aa 17 b = nI n := iv.2.2.2.2.2.2.2.2.2.2.2.2.2.2.2.1
theorem IV.bs {cc : Nat → Nat} {aa : Nat → Nat → Int32} (iv : IV cc aa) : ∀ k, x_byte (aa 18 k) := iv.2.2.2.2.2.2.2.2.2.2.2.2.2.2.2.2.1
theorem IV.ki {cc : Nat → Nat} {aa : Nat → Nat → Int32} (iv : IV cc aa) : ∀ n, n < cc 20 → ∃ k, k < 6 ∧ aa 21 n = nI k := iv.2.2.2.2.2.2.2.2.2.2.2.2.2.2.2.2.2.1
theorem IV.wo {cc : Nat → Nat} {aa : Nat → Nat → Int32} (iv : IV cc aa) : ∀ n, n < cc 20 → ∃ w, 0 < w ∧ w ≤ 100 ∧ aa 22 n = nI w := iv.2.2.2.2.2.2.2.2.2.2.2.2.2.2.2.2.2.2.1
theorem IV.wh {cc : Nat → Nat} {aa : Nat → Nat → Int32} (iv : IV cc aa) : ∀ n, n < cc 20 → ∃ w, w < 2 ^ cc 3 ∧ aa 23 n = nI w := iv.2.2.2.2.2.2.2.2.2.2.2.2.2.2.2.2.2.2.2.1
theorem IV.tm {cc : Nat → Nat} {aa : Nat → Nat → Int32} (iv : IV cc aa) : ∀ n, n < cc 20 → ∃ t, 0 < t ∧ t ≤ 9 ∧ aa 24 n = nI t := iv.2.2.2.2.2.2.2.2.2.2.2.2.2.2.2.2.2.2.2.2.1
theorem IV.mk {cc : Nat → Nat} {aa : Nat → Nat → Int32} (iv : IV cc aa) : ∀ n, n < cc 20 → ∃ m, m < 65536 ∧ aa 25 n = nI m := iv.2.2.2.2.2.2.2.2.2.2.2.2.2.2.2.2.2.2.2.2.2.1
theorem IV.bk {cc : Nat → Nat} {aa : Nat → Nat → Int32} (iv : IV cc aa) : ∀ n, n < 40 → aa 27 n = 0 ∨ aa 27 n = 1 := iv.2.2.2.2.2.2.2.2.2.2.2.2.2.2.2.2.2.2.2.2.2.2.1
theorem IV.bn {cc : Nat → Nat} {aa : Nat → Nat → Int32} (iv : IV cc aa) : ∀ n, cc 20 ≤ n → n < 40 → aa 27 n = 0 := iv.2.2.2.2.2.2.2.2.2.2.2.2.2.2.2.2.2.2.2.2.2.2.2.1
theorem IV.cr {cc : Nat → Nat} {aa : Nat → Nat → Int32} (iv : IV cc aa) : ∀ c, c < cc 28 → x_ix (cc 3) (aa 29 c) = true := iv.2.2.2.2.2.2.2.2.2.2.2.2.2.2.2.2.2.2.2.2.2.2.2.2.1
theorem IV.fn {cc : Nat → Nat} {aa : Nat → Nat → Int32} (iv : IV cc aa) : ∀ c, cc 28 ≤ c → c < 6 → aa 30 c = 0 := iv.2.2.2.2.2.2.2.2.2.2.2.2.2.2.2.2.2.2.2.2.2.2.2.2.2.1
theorem IV.yn {cc : Nat → Nat} {aa : Nat → Nat → Int32} (iv : IV cc aa) : ∀ i, i < cc 31 → x_ix (cc 20) (aa 32 i) = true := iv.2.2.2.2.2.2.2.2.2.2.2.2.2.2.2.2.2.2.2.2.2.2.2.2.2.2.1
theorem IV.yc {cc : Nat → Nat} {aa : Nat → Nat → Int32} (iv : IV cc aa) : ∀ i, i < cc 31 → x_ix (cc 28) (aa 33 i) = true := iv.2.2.2.2.2.2.2.2.2.2.2.2.2.2.2.2.2.2.2.2.2.2.2.2.2.2.2.1
theorem IV.ys {cc : Nat → Nat} {aa : Nat → Nat → Int32} (iv : IV cc aa) : ∀ i, i < cc 31 → x_ix (cc 3) (aa 34 i) = true := iv.2.2.2.2.2.2.2.2.2.2.2.2.2.2.2.2.2.2.2.2.2.2.2.2.2.2.2.2.1
theorem IV.yd {cc : Nat → Nat} {aa : Nat → Nat → Int32} (iv : IV cc aa) : ∀ i, i < cc 31 → ∃ d, d ≤ cc 2 ∧ aa 35 i = nI d := iv.2.2.2.2.2.2.2.2.2.2.2.2.2.2.2.2.2.2.2.2.2.2.2.2.2.2.2.2.2.1
theorem IV.yo {cc : Nat → Nat} {aa : Nat → Nat → Int32} (iv : IV cc aa) : ∀ i j, i ≤ j → j < cc 31 → aa 35 i ≤ aa 35 j := iv.2.2.2.2.2.2.2.2.2.2.2.2.2.2.2.2.2.2.2.2.2.2.2.2.2.2.2.2.2.2.1
theorem IV.ym {cc : Nat → Nat} {aa : Nat → Nat → Int32} (iv : IV cc aa) : ∀ i, i < cc 31 → ∃ m, m < 1440 ∧ aa 36 i = nI m := iv.2.2.2.2.2.2.2.2.2.2.2.2.2.2.2.2.2.2.2.2.2.2.2.2.2.2.2.2.2.2.2.1
theorem IV.yk {cc : Nat → Nat} {aa : Nat → Nat → Int32} (iv : IV cc aa) : ∀ i, i < cc 31 → aa 37 i = 0 ∨ aa 37 i = 1 := iv.2.2.2.2.2.2.2.2.2.2.2.2.2.2.2.2.2.2.2.2.2.2.2.2.2.2.2.2.2.2.2.2.1
theorem IV.ps {cc : Nat → Nat} {aa : Nat → Nat → Int32} (iv : IV cc aa) : ∀ k, k < cc 38 → x_ix (cc 3) (aa 40 k) = true := iv.2.2.2.2.2.2.2.2.2.2.2.2.2.2.2.2.2.2.2.2.2.2.2.2.2.2.2.2.2.2.2.2.2
def x_small (c : Int32) : Int32 := if x_in c 65 90 = true then c + 32 else c
def x_sign (c : Int32) : Bool := x_in c 48 57 || x_in (x_small c) 97 122
def x_fits (i k : Int32) : Bool := decide (k = 0) || decide (k = i) || (decide (k = 1) && decide (i = 2)) || (decide (k = 4) && decide (i = 5))
def x_ad (a b : Int32) : Int32 := if a ≤ b then b - a else a - b
def x_walks (aa : Nat → Nat → Int32) (a b : Int32) : Int32 := x_ad (aa 4 (tn a)) (aa 4 (tn b)) + x_ad (aa 5 (tn a)) (aa 5 (tn b))
/-- what a call answers, and the state behind it -/
abbrev x_A := Int32 × (Nat → Nat) × (Nat → Nat → Int32)
def mQ (h0 : am_H) (S : x_A) (v : Option Value) (h : am_H) : Prop := v = some (.int S.1) ∧ MW h S.2.1 S.2.2 ∧ mFr h0 h
theorem mq_end {h0 h : am_H} {S : x_A} {x : Int32} {cc : Nat → Nat} {aa : Nat → Nat → Int32} (e : S = (x, cc, aa)) (hw : MW h cc aa) (fr : mFr h0 h) : mQ h0 S (some (.int x)) h := by
  subst e
  exact ⟨rfl, hw, fr⟩
theorem m_st1 {mi pc pc' a b q y : Nat} {z : Int} {ls : am_L} {st : List Value} {h h0 : am_H} {Q : Option Value → am_H → Prop} {cc : Nat → Nat} {aa : Nat → Nat → Int32} {v : Int32} (hf : am_S mi pc pc' (.iastore, a, b, q, z)) (hw : MW h cc aa) (fr : mFr h0 h) (hj : y < 6) (k : ∀ h, MW h cc (ua aa 1 (upd (aa 1) y v)) → mFr h0 h → am_wp mi (pc', ls, st) h Q) : am_wp mi (pc, ls, .int v :: .int (nI y) :: .ref 28 :: st) h Q := w_iastN hf (hw 1 _ rfl) hj (by decide) (k _ (mw_w1 hw _) (fr.tr (mFr.st (hw 1 _ rfl) rfl (by decide) (by decide))))
theorem m_st4 {mi pc pc' a b q y : Nat} {z : Int} {ls : am_L} {st : List Value} {h h0 : am_H} {Q : Option Value → am_H → Prop} {cc : Nat → Nat} {aa : Nat → Nat → Int32} {v : Int32} (hf : am_S mi pc pc' (.iastore, a, b, q, z)) (hw : MW h cc aa) (fr : mFr h0 h) (hj : y < 10) (k : ∀ h, MW h cc (ua aa 4 (upd (aa 4) y v)) → mFr h0 h → am_wp mi (pc', ls, st) h Q) : am_wp mi (pc, ls, .int v :: .int (nI y) :: .ref 29 :: st) h Q := w_iastN hf (hw 2 _ rfl) hj (by decide) (k _ (mw_w4 hw _) (fr.tr (mFr.st (hw 2 _ rfl) rfl (by decide) (by decide))))
theorem m_st5 {mi pc pc' a b q y : Nat} {z : Int} {ls : am_L} {st : List Value} {h h0 : am_H} {Q : Option Value → am_H → Prop} {cc : Nat → Nat} {aa : Nat → Nat → Int32} {v : Int32} (hf : am_S mi pc pc' (.iastore, a, b, q, z)) (hw : MW h cc aa) (fr : mFr h0 h) (hj : y < 10) (k : ∀ h, MW h cc (ua aa 5 (upd (aa 5) y v)) → mFr h0 h → am_wp mi (pc', ls, st) h Q) : am_wp mi (pc, ls, .int v :: .int (nI y) :: .ref 30 :: st) h Q := w_iastN hf (hw 3 _ rfl) hj (by decide) (k _ (mw_w5 hw _) (fr.tr (mFr.st (hw 3 _ rfl) rfl (by decide) (by decide))))
theorem m_st6 {mi pc pc' a b q y : Nat} {z : Int} {ls : am_L} {st : List Value} {h h0 : am_H} {Q : Option Value → am_H → Prop} {cc : Nat → Nat} {aa : Nat → Nat → Int32} {v : Int32} (hf : am_S mi pc pc' (.iastore, a, b, q, z)) (hw : MW h cc aa) (fr : mFr h0 h) (hj : y < 10) (k : ∀ h, MW h cc (ua aa 6 (upd (aa 6) y v)) → mFr h0 h → am_wp mi (pc', ls, st) h Q) : am_wp mi (pc, ls, .int v :: .int (nI y) :: .ref 31 :: st) h Q := w_iastN hf (hw 4 _ rfl) hj (by decide) (k _ (mw_w6 hw _) (fr.tr (mFr.st (hw 4 _ rfl) rfl (by decide) (by decide))))
theorem m_st9 {mi pc pc' a b q y : Nat} {z : Int} {ls : am_L} {st : List Value} {h h0 : am_H} {Q : Option Value → am_H → Prop} {cc : Nat → Nat} {aa : Nat → Nat → Int32} {v : Int32} (hf : am_S mi pc pc' (.iastore, a, b, q, z)) (hw : MW h cc aa) (fr : mFr h0 h) (hj : y < 40) (k : ∀ h, MW h cc (ua aa 9 (upd (aa 9) y v)) → mFr h0 h → am_wp mi (pc', ls, st) h Q) : am_wp mi (pc, ls, .int v :: .int (nI y) :: .ref 32 :: st) h Q := w_iastN hf (hw 5 _ rfl) hj (by decide) (k _ (mw_w9 hw _) (fr.tr (mFr.st (hw 5 _ rfl) rfl (by decide) (by decide))))
theorem m_st10 {mi pc pc' a b q y : Nat} {z : Int} {ls : am_L} {st : List Value} {h h0 : am_H} {Q : Option Value → am_H → Prop} {cc : Nat → Nat} {aa : Nat → Nat → Int32} {v : Int32} (hf : am_S mi pc pc' (.iastore, a, b, q, z)) (hw : MW h cc aa) (fr : mFr h0 h) (hj : y < 40) (k : ∀ h, MW h cc (ua aa 10 (upd (aa 10) y v)) → mFr h0 h → am_wp mi (pc', ls, st) h Q) : am_wp mi (pc, ls, .int v :: .int (nI y) :: .ref 33 :: st) h Q := w_iastN hf (hw 6 _ rfl) hj (by decide) (k _ (mw_w10 hw _) (fr.tr (mFr.st (hw 6 _ rfl) rfl (by decide) (by decide))))
theorem m_st11 {mi pc pc' a b q y : Nat} {z : Int} {ls : am_L} {st : List Value} {h h0 : am_H} {Q : Option Value → am_H → Prop} {cc : Nat → Nat} {aa : Nat → Nat → Int32} {v : Int32} (hf : am_S mi pc pc' (.iastore, a, b, q, z)) (hw : MW h cc aa) (fr : mFr h0 h) (hj : y < 40) (k : ∀ h, MW h cc (ua aa 11 (upd (aa 11) y v)) → mFr h0 h → am_wp mi (pc', ls, st) h Q) : am_wp mi (pc, ls, .int v :: .int (nI y) :: .ref 34 :: st) h Q := w_iastN hf (hw 7 _ rfl) hj (by decide) (k _ (mw_w11 hw _) (fr.tr (mFr.st (hw 7 _ rfl) rfl (by decide) (by decide))))
theorem m_st12 {mi pc pc' a b q y : Nat} {z : Int} {ls : am_L} {st : List Value} {h h0 : am_H} {Q : Option Value → am_H → Prop} {cc : Nat → Nat} {aa : Nat → Nat → Int32} {v : Int32} (hf : am_S mi pc pc' (.iastore, a, b, q, z)) (hw : MW h cc aa) (fr : mFr h0 h) (hj : y < 40) (k : ∀ h, MW h cc (ua aa 12 (upd (aa 12) y v)) → mFr h0 h → am_wp mi (pc', ls, st) h Q) : am_wp mi (pc, ls, .int v :: .int (nI y) :: .ref 35 :: st) h Q := w_iastN hf (hw 8 _ rfl) hj (by decide) (k _ (mw_w12 hw _) (fr.tr (mFr.st (hw 8 _ rfl) rfl (by decide) (by decide))))
theorem m_st13 {mi pc pc' a b q y : Nat} {z : Int} {ls : am_L} {st : List Value} {h h0 : am_H} {Q : Option Value → am_H → Prop} {cc : Nat → Nat} {aa : Nat → Nat → Int32} {v : Int32} (hf : am_S mi pc pc' (.iastore, a, b, q, z)) (hw : MW h cc aa) (fr : mFr h0 h) (hj : y < 4) (k : ∀ h, MW h cc (ua aa 13 (upd (aa 13) y v)) → mFr h0 h → am_wp mi (pc', ls, st) h Q) : am_wp mi (pc, ls, .int v :: .int (nI y) :: .ref 36 :: st) h Q := w_iastN hf (hw 9 _ rfl) hj (by decide) (k _ (mw_w13 hw _) (fr.tr (mFr.st (hw 9 _ rfl) rfl (by decide) (by decide))))
theorem m_st14 {mi pc pc' a b q y : Nat} {z : Int} {ls : am_L} {st : List Value} {h h0 : am_H} {Q : Option Value → am_H → Prop} {cc : Nat → Nat} {aa : Nat → Nat → Int32} {v : Int32} (hf : am_S mi pc pc' (.iastore, a, b, q, z)) (hw : MW h cc aa) (fr : mFr h0 h) (hj : y < 320) (k : ∀ h, MW h cc (ua aa 14 (upd (aa 14) y v)) → mFr h0 h → am_wp mi (pc', ls, st) h Q) : am_wp mi (pc, ls, .int v :: .int (nI y) :: .ref 37 :: st) h Q := w_iastN hf (hw 10 _ rfl) hj (by decide) (k _ (mw_w14 hw _) (fr.tr (mFr.st (hw 10 _ rfl) rfl (by decide) (by decide))))
theorem m_st15 {mi pc pc' a b q y : Nat} {z : Int} {ls : am_L} {st : List Value} {h h0 : am_H} {Q : Option Value → am_H → Prop} {cc : Nat → Nat} {aa : Nat → Nat → Int32} {v : Int32} (hf : am_S mi pc pc' (.iastore, a, b, q, z)) (hw : MW h cc aa) (fr : mFr h0 h) (hj : y < 80) (k : ∀ h, MW h cc (ua aa 15 (upd (aa 15) y v)) → mFr h0 h → am_wp mi (pc', ls, st) h Q) : am_wp mi (pc, ls, .int v :: .int (nI y) :: .ref 38 :: st) h Q := w_iastN hf (hw 11 _ rfl) hj (by decide) (k _ (mw_w15 hw _) (fr.tr (mFr.st (hw 11 _ rfl) rfl (by decide) (by decide))))
theorem m_st17 {mi pc pc' a b q y : Nat} {z : Int} {ls : am_L} {st : List Value} {h h0 : am_H} {Q : Option Value → am_H → Prop} {cc : Nat → Nat} {aa : Nat → Nat → Int32} {v : Int32} (hf : am_S mi pc pc' (.iastore, a, b, q, z)) (hw : MW h cc aa) (fr : mFr h0 h) (hj : y < 16) (k : ∀ h, MW h cc (ua aa 17 (upd (aa 17) y v)) → mFr h0 h → am_wp mi (pc', ls, st) h Q) : am_wp mi (pc, ls, .int v :: .int (nI y) :: .ref 39 :: st) h Q := w_iastN hf (hw 12 _ rfl) hj (by decide) (k _ (mw_w17 hw _) (fr.tr (mFr.st (hw 12 _ rfl) rfl (by decide) (by decide))))
theorem m_st18 {mi pc pc' a b q y : Nat} {z : Int} {ls : am_L} {st : List Value} {h h0 : am_H} {Q : Option Value → am_H → Prop} {cc : Nat → Nat} {aa : Nat → Nat → Int32} {v : Int32} (hf : am_S mi pc pc' (.iastore, a, b, q, z)) (hw : MW h cc aa) (fr : mFr h0 h) (hj : y < 192) (k : ∀ h, MW h cc (ua aa 18 (upd (aa 18) y v)) → mFr h0 h → am_wp mi (pc', ls, st) h Q) : am_wp mi (pc, ls, .int v :: .int (nI y) :: .ref 40 :: st) h Q := w_iastN hf (hw 13 _ rfl) hj (by decide) (k _ (mw_w18 hw _) (fr.tr (mFr.st (hw 13 _ rfl) rfl (by decide) (by decide))))
theorem m_st19 {mi pc pc' a b q y : Nat} {z : Int} {ls : am_L} {st : List Value} {h h0 : am_H} {Q : Option Value → am_H → Prop} {cc : Nat → Nat} {aa : Nat → Nat → Int32} {v : Int32} (hf : am_S mi pc pc' (.iastore, a, b, q, z)) (hw : MW h cc aa) (fr : mFr h0 h) (hj : y < 6) (k : ∀ h, MW h cc (ua aa 19 (upd (aa 19) y v)) → mFr h0 h → am_wp mi (pc', ls, st) h Q) : am_wp mi (pc, ls, .int v :: .int (nI y) :: .ref 41 :: st) h Q := w_iastN hf (hw 14 _ rfl) hj (by decide) (k _ (mw_w19 hw _) (fr.tr (mFr.st (hw 14 _ rfl) rfl (by decide) (by decide))))
theorem m_st21 {mi pc pc' a b q y : Nat} {z : Int} {ls : am_L} {st : List Value} {h h0 : am_H} {Q : Option Value → am_H → Prop} {cc : Nat → Nat} {aa : Nat → Nat → Int32} {v : Int32} (hf : am_S mi pc pc' (.iastore, a, b, q, z)) (hw : MW h cc aa) (fr : mFr h0 h) (hj : y < 40) (k : ∀ h, MW h cc (ua aa 21 (upd (aa 21) y v)) → mFr h0 h → am_wp mi (pc', ls, st) h Q) : am_wp mi (pc, ls, .int v :: .int (nI y) :: .ref 42 :: st) h Q := w_iastN hf (hw 15 _ rfl) hj (by decide) (k _ (mw_w21 hw _) (fr.tr (mFr.st (hw 15 _ rfl) rfl (by decide) (by decide))))
theorem m_st22 {mi pc pc' a b q y : Nat} {z : Int} {ls : am_L} {st : List Value} {h h0 : am_H} {Q : Option Value → am_H → Prop} {cc : Nat → Nat} {aa : Nat → Nat → Int32} {v : Int32} (hf : am_S mi pc pc' (.iastore, a, b, q, z)) (hw : MW h cc aa) (fr : mFr h0 h) (hj : y < 40) (k : ∀ h, MW h cc (ua aa 22 (upd (aa 22) y v)) → mFr h0 h → am_wp mi (pc', ls, st) h Q) : am_wp mi (pc, ls, .int v :: .int (nI y) :: .ref 43 :: st) h Q := w_iastN hf (hw 16 _ rfl) hj (by decide) (k _ (mw_w22 hw _) (fr.tr (mFr.st (hw 16 _ rfl) rfl (by decide) (by decide))))
theorem m_st23 {mi pc pc' a b q y : Nat} {z : Int} {ls : am_L} {st : List Value} {h h0 : am_H} {Q : Option Value → am_H → Prop} {cc : Nat → Nat} {aa : Nat → Nat → Int32} {v : Int32} (hf : am_S mi pc pc' (.iastore, a, b, q, z)) (hw : MW h cc aa) (fr : mFr h0 h) (hj : y < 40) (k : ∀ h, MW h cc (ua aa 23 (upd (aa 23) y v)) → mFr h0 h → am_wp mi (pc', ls, st) h Q) : am_wp mi (pc, ls, .int v :: .int (nI y) :: .ref 44 :: st) h Q := w_iastN hf (hw 17 _ rfl) hj (by decide) (k _ (mw_w23 hw _) (fr.tr (mFr.st (hw 17 _ rfl) rfl (by decide) (by decide))))
theorem m_st24 {mi pc pc' a b q y : Nat} {z : Int} {ls : am_L} {st : List Value} {h h0 : am_H} {Q : Option Value → am_H → Prop} {cc : Nat → Nat} {aa : Nat → Nat → Int32} {v : Int32} (hf : am_S mi pc pc' (.iastore, a, b, q, z)) (hw : MW h cc aa) (fr : mFr h0 h) (hj : y < 40) (k : ∀ h, MW h cc (ua aa 24 (upd (aa 24) y v)) → mFr h0 h → am_wp mi (pc', ls, st) h Q) : am_wp mi (pc, ls, .int v :: .int (nI y) :: .ref 45 :: st) h Q := w_iastN hf (hw 18 _ rfl) hj (by decide) (k _ (mw_w24 hw _) (fr.tr (mFr.st (hw 18 _ rfl) rfl (by decide) (by decide))))
theorem m_st25 {mi pc pc' a b q y : Nat} {z : Int} {ls : am_L} {st : List Value} {h h0 : am_H} {Q : Option Value → am_H → Prop} {cc : Nat → Nat} {aa : Nat → Nat → Int32} {v : Int32} (hf : am_S mi pc pc' (.iastore, a, b, q, z)) (hw : MW h cc aa) (fr : mFr h0 h) (hj : y < 40) (k : ∀ h, MW h cc (ua aa 25 (upd (aa 25) y v)) → mFr h0 h → am_wp mi (pc', ls, st) h Q) : am_wp mi (pc, ls, .int v :: .int (nI y) :: .ref 46 :: st) h Q := w_iastN hf (hw 19 _ rfl) hj (by decide) (k _ (mw_w25 hw _) (fr.tr (mFr.st (hw 19 _ rfl) rfl (by decide) (by decide))))
theorem m_st26 {mi pc pc' a b q y : Nat} {z : Int} {ls : am_L} {st : List Value} {h h0 : am_H} {Q : Option Value → am_H → Prop} {cc : Nat → Nat} {aa : Nat → Nat → Int32} {v : Int32} (hf : am_S mi pc pc' (.iastore, a, b, q, z)) (hw : MW h cc aa) (fr : mFr h0 h) (hj : y < 40) (k : ∀ h, MW h cc (ua aa 26 (upd (aa 26) y v)) → mFr h0 h → am_wp mi (pc', ls, st) h Q) : am_wp mi (pc, ls, .int v :: .int (nI y) :: .ref 47 :: st) h Q := w_iastN hf (hw 20 _ rfl) hj (by decide) (k _ (mw_w26 hw _) (fr.tr (mFr.st (hw 20 _ rfl) rfl (by decide) (by decide))))
theorem m_st27 {mi pc pc' a b q y : Nat} {z : Int} {ls : am_L} {st : List Value} {h h0 : am_H} {Q : Option Value → am_H → Prop} {cc : Nat → Nat} {aa : Nat → Nat → Int32} {v : Int32} (hf : am_S mi pc pc' (.bastore, a, b, q, z)) (hw : MW h cc aa) (fr : mFr h0 h) (hj : y < 40) (k : ∀ h, MW h cc (ua aa 27 (upd (aa 27) y (am_nrw 2 v))) → mFr h0 h → am_wp mi (pc', ls, st) h Q) : am_wp mi (pc, ls, .int v :: .int (nI y) :: .ref 48 :: st) h Q := w_bastN hf (hw 21 _ rfl) (Or.inr rfl) hj (by decide) (k _ (mw_w27 hw _) (fr.tr (mFr.st (hw 21 _ rfl) rfl (by decide) (by decide))))
theorem m_st29 {mi pc pc' a b q y : Nat} {z : Int} {ls : am_L} {st : List Value} {h h0 : am_H} {Q : Option Value → am_H → Prop} {cc : Nat → Nat} {aa : Nat → Nat → Int32} {v : Int32} (hf : am_S mi pc pc' (.iastore, a, b, q, z)) (hw : MW h cc aa) (fr : mFr h0 h) (hj : y < 6) (k : ∀ h, MW h cc (ua aa 29 (upd (aa 29) y v)) → mFr h0 h → am_wp mi (pc', ls, st) h Q) : am_wp mi (pc, ls, .int v :: .int (nI y) :: .ref 49 :: st) h Q := w_iastN hf (hw 22 _ rfl) hj (by decide) (k _ (mw_w29 hw _) (fr.tr (mFr.st (hw 22 _ rfl) rfl (by decide) (by decide))))
theorem m_st30 {mi pc pc' a b q y : Nat} {z : Int} {ls : am_L} {st : List Value} {h h0 : am_H} {Q : Option Value → am_H → Prop} {cc : Nat → Nat} {aa : Nat → Nat → Int32} {v : Int32} (hf : am_S mi pc pc' (.iastore, a, b, q, z)) (hw : MW h cc aa) (fr : mFr h0 h) (hj : y < 6) (k : ∀ h, MW h cc (ua aa 30 (upd (aa 30) y v)) → mFr h0 h → am_wp mi (pc', ls, st) h Q) : am_wp mi (pc, ls, .int v :: .int (nI y) :: .ref 50 :: st) h Q := w_iastN hf (hw 23 _ rfl) hj (by decide) (k _ (mw_w30 hw _) (fr.tr (mFr.st (hw 23 _ rfl) rfl (by decide) (by decide))))
theorem m_st32 {mi pc pc' a b q y : Nat} {z : Int} {ls : am_L} {st : List Value} {h h0 : am_H} {Q : Option Value → am_H → Prop} {cc : Nat → Nat} {aa : Nat → Nat → Int32} {v : Int32} (hf : am_S mi pc pc' (.iastore, a, b, q, z)) (hw : MW h cc aa) (fr : mFr h0 h) (hj : y < 400) (k : ∀ h, MW h cc (ua aa 32 (upd (aa 32) y v)) → mFr h0 h → am_wp mi (pc', ls, st) h Q) : am_wp mi (pc, ls, .int v :: .int (nI y) :: .ref 51 :: st) h Q := w_iastN hf (hw 24 _ rfl) hj (by decide) (k _ (mw_w32 hw _) (fr.tr (mFr.st (hw 24 _ rfl) rfl (by decide) (by decide))))
theorem m_st33 {mi pc pc' a b q y : Nat} {z : Int} {ls : am_L} {st : List Value} {h h0 : am_H} {Q : Option Value → am_H → Prop} {cc : Nat → Nat} {aa : Nat → Nat → Int32} {v : Int32} (hf : am_S mi pc pc' (.iastore, a, b, q, z)) (hw : MW h cc aa) (fr : mFr h0 h) (hj : y < 400) (k : ∀ h, MW h cc (ua aa 33 (upd (aa 33) y v)) → mFr h0 h → am_wp mi (pc', ls, st) h Q) : am_wp mi (pc, ls, .int v :: .int (nI y) :: .ref 52 :: st) h Q := w_iastN hf (hw 25 _ rfl) hj (by decide) (k _ (mw_w33 hw _) (fr.tr (mFr.st (hw 25 _ rfl) rfl (by decide) (by decide))))
theorem m_st34 {mi pc pc' a b q y : Nat} {z : Int} {ls : am_L} {st : List Value} {h h0 : am_H} {Q : Option Value → am_H → Prop} {cc : Nat → Nat} {aa : Nat → Nat → Int32} {v : Int32} (hf : am_S mi pc pc' (.iastore, a, b, q, z)) (hw : MW h cc aa) (fr : mFr h0 h) (hj : y < 400) (k : ∀ h, MW h cc (ua aa 34 (upd (aa 34) y v)) → mFr h0 h → am_wp mi (pc', ls, st) h Q) : am_wp mi (pc, ls, .int v :: .int (nI y) :: .ref 53 :: st) h Q := w_iastN hf (hw 26 _ rfl) hj (by decide) (k _ (mw_w34 hw _) (fr.tr (mFr.st (hw 26 _ rfl) rfl (by decide) (by decide))))
theorem m_st35 {mi pc pc' a b q y : Nat} {z : Int} {ls : am_L} {st : List Value} {h h0 : am_H} {Q : Option Value → am_H → Prop} {cc : Nat → Nat} {aa : Nat → Nat → Int32} {v : Int32} (hf : am_S mi pc pc' (.iastore, a, b, q, z)) (hw : MW h cc aa) (fr : mFr h0 h) (hj : y < 400) (k : ∀ h, MW h cc (ua aa 35 (upd (aa 35) y v)) → mFr h0 h → am_wp mi (pc', ls, st) h Q) : am_wp mi (pc, ls, .int v :: .int (nI y) :: .ref 54 :: st) h Q := w_iastN hf (hw 27 _ rfl) hj (by decide) (k _ (mw_w35 hw _) (fr.tr (mFr.st (hw 27 _ rfl) rfl (by decide) (by decide))))
theorem m_st36 {mi pc pc' a b q y : Nat} {z : Int} {ls : am_L} {st : List Value} {h h0 : am_H} {Q : Option Value → am_H → Prop} {cc : Nat → Nat} {aa : Nat → Nat → Int32} {v : Int32} (hf : am_S mi pc pc' (.iastore, a, b, q, z)) (hw : MW h cc aa) (fr : mFr h0 h) (hj : y < 400) (k : ∀ h, MW h cc (ua aa 36 (upd (aa 36) y v)) → mFr h0 h → am_wp mi (pc', ls, st) h Q) : am_wp mi (pc, ls, .int v :: .int (nI y) :: .ref 55 :: st) h Q := w_iastN hf (hw 28 _ rfl) hj (by decide) (k _ (mw_w36 hw _) (fr.tr (mFr.st (hw 28 _ rfl) rfl (by decide) (by decide))))
theorem m_st37 {mi pc pc' a b q y : Nat} {z : Int} {ls : am_L} {st : List Value} {h h0 : am_H} {Q : Option Value → am_H → Prop} {cc : Nat → Nat} {aa : Nat → Nat → Int32} {v : Int32} (hf : am_S mi pc pc' (.iastore, a, b, q, z)) (hw : MW h cc aa) (fr : mFr h0 h) (hj : y < 400) (k : ∀ h, MW h cc (ua aa 37 (upd (aa 37) y v)) → mFr h0 h → am_wp mi (pc', ls, st) h Q) : am_wp mi (pc, ls, .int v :: .int (nI y) :: .ref 56 :: st) h Q := w_iastN hf (hw 29 _ rfl) hj (by decide) (k _ (mw_w37 hw _) (fr.tr (mFr.st (hw 29 _ rfl) rfl (by decide) (by decide))))
theorem m_st39 {mi pc pc' a b q y : Nat} {z : Int} {ls : am_L} {st : List Value} {h h0 : am_H} {Q : Option Value → am_H → Prop} {cc : Nat → Nat} {aa : Nat → Nat → Int32} {v : Int32} (hf : am_S mi pc pc' (.iastore, a, b, q, z)) (hw : MW h cc aa) (fr : mFr h0 h) (hj : y < 60) (k : ∀ h, MW h cc (ua aa 39 (upd (aa 39) y v)) → mFr h0 h → am_wp mi (pc', ls, st) h Q) : am_wp mi (pc, ls, .int v :: .int (nI y) :: .ref 57 :: st) h Q := w_iastN hf (hw 30 _ rfl) hj (by decide) (k _ (mw_w39 hw _) (fr.tr (mFr.st (hw 30 _ rfl) rfl (by decide) (by decide))))
theorem m_st40 {mi pc pc' a b q y : Nat} {z : Int} {ls : am_L} {st : List Value} {h h0 : am_H} {Q : Option Value → am_H → Prop} {cc : Nat → Nat} {aa : Nat → Nat → Int32} {v : Int32} (hf : am_S mi pc pc' (.iastore, a, b, q, z)) (hw : MW h cc aa) (fr : mFr h0 h) (hj : y < 60) (k : ∀ h, MW h cc (ua aa 40 (upd (aa 40) y v)) → mFr h0 h → am_wp mi (pc', ls, st) h Q) : am_wp mi (pc, ls, .int v :: .int (nI y) :: .ref 58 :: st) h Q := w_iastN hf (hw 31 _ rfl) hj (by decide) (k _ (mw_w40 hw _) (fr.tr (mFr.st (hw 31 _ rfl) rfl (by decide) (by decide))))
theorem m_st41 {mi pc pc' a b q y : Nat} {z : Int} {ls : am_L} {st : List Value} {h h0 : am_H} {Q : Option Value → am_H → Prop} {cc : Nat → Nat} {aa : Nat → Nat → Int32} {v : Int32} (hf : am_S mi pc pc' (.iastore, a, b, q, z)) (hw : MW h cc aa) (fr : mFr h0 h) (hj : y < 60) (k : ∀ h, MW h cc (ua aa 41 (upd (aa 41) y v)) → mFr h0 h → am_wp mi (pc', ls, st) h Q) : am_wp mi (pc, ls, .int v :: .int (nI y) :: .ref 59 :: st) h Q := w_iastN hf (hw 32 _ rfl) hj (by decide) (k _ (mw_w41 hw _) (fr.tr (mFr.st (hw 32 _ rfl) rfl (by decide) (by decide))))
theorem m_st42 {mi pc pc' a b q y : Nat} {z : Int} {ls : am_L} {st : List Value} {h h0 : am_H} {Q : Option Value → am_H → Prop} {cc : Nat → Nat} {aa : Nat → Nat → Int32} {v : Int32} (hf : am_S mi pc pc' (.iastore, a, b, q, z)) (hw : MW h cc aa) (fr : mFr h0 h) (hj : y < 60) (k : ∀ h, MW h cc (ua aa 42 (upd (aa 42) y v)) → mFr h0 h → am_wp mi (pc', ls, st) h Q) : am_wp mi (pc, ls, .int v :: .int (nI y) :: .ref 60 :: st) h Q := w_iastN hf (hw 33 _ rfl) hj (by decide) (k _ (mw_w42 hw _) (fr.tr (mFr.st (hw 33 _ rfl) rfl (by decide) (by decide))))
theorem m_st43 {mi pc pc' a b q y : Nat} {z : Int} {ls : am_L} {st : List Value} {h h0 : am_H} {Q : Option Value → am_H → Prop} {cc : Nat → Nat} {aa : Nat → Nat → Int32} {v : Int32} (hf : am_S mi pc pc' (.iastore, a, b, q, z)) (hw : MW h cc aa) (fr : mFr h0 h) (hj : y < 60) (k : ∀ h, MW h cc (ua aa 43 (upd (aa 43) y v)) → mFr h0 h → am_wp mi (pc', ls, st) h Q) : am_wp mi (pc, ls, .int v :: .int (nI y) :: .ref 61 :: st) h Q := w_iastN hf (hw 34 _ rfl) hj (by decide) (k _ (mw_w43 hw _) (fr.tr (mFr.st (hw 34 _ rfl) rfl (by decide) (by decide))))
theorem m_st44 {mi pc pc' a b q y : Nat} {z : Int} {ls : am_L} {st : List Value} {h h0 : am_H} {Q : Option Value → am_H → Prop} {cc : Nat → Nat} {aa : Nat → Nat → Int32} {v : Int32} (hf : am_S mi pc pc' (.iastore, a, b, q, z)) (hw : MW h cc aa) (fr : mFr h0 h) (hj : y < 10240) (k : ∀ h, MW h cc (ua aa 44 (upd (aa 44) y v)) → mFr h0 h → am_wp mi (pc', ls, st) h Q) : am_wp mi (pc, ls, .int v :: .int (nI y) :: .ref 62 :: st) h Q := w_iastN hf (hw 35 _ rfl) hj (by decide) (k _ (mw_w44 hw _) (fr.tr (mFr.st (hw 35 _ rfl) rfl (by decide) (by decide))))
theorem m_st46 {mi pc pc' a b q y : Nat} {z : Int} {ls : am_L} {st : List Value} {h h0 : am_H} {Q : Option Value → am_H → Prop} {cc : Nat → Nat} {aa : Nat → Nat → Int32} {v : Int32} (hf : am_S mi pc pc' (.iastore, a, b, q, z)) (hw : MW h cc aa) (fr : mFr h0 h) (hj : y < 10) (k : ∀ h, MW h cc (ua aa 46 (upd (aa 46) y v)) → mFr h0 h → am_wp mi (pc', ls, st) h Q) : am_wp mi (pc, ls, .int v :: .int (nI y) :: .ref 63 :: st) h Q := w_iastN hf (hw 36 _ rfl) hj (by decide) (k _ (mw_w46 hw _) (fr.tr (mFr.st (hw 36 _ rfl) rfl (by decide) (by decide))))
theorem m_pf0 {mi pc pc' q i v : Nat} {z : Int} {ls : am_L} {st : List Value} {h h0 : am_H} {Q : Option Value → am_H → Prop} {cc : Nat → Nat} {aa : Nat → Nat → Int32} (hf : am_S mi pc pc' (.putfield i, 11, 0, q, z)) (hw : MW h cc aa) (fr : mFr h0 h) (k : ∀ h, MW h (uc cc 0 v) aa → mFr h0 h → am_wp mi (pc', ls, st) h Q) (hm : am_may mi 11 0 = true := by decide +kernel) : am_wp mi (pc, ls, .int (nI v) :: .ref 27 :: st) h Q := w_putf hf hm (hw 0 _ rfl) rfl rfl (k _ (mw_i0 hw v) (fr.tr (mFr.st (hw 0 _ rfl) rfl (by decide) (by decide))))
theorem m_pf2 {mi pc pc' q i v : Nat} {z : Int} {ls : am_L} {st : List Value} {h h0 : am_H} {Q : Option Value → am_H → Prop} {cc : Nat → Nat} {aa : Nat → Nat → Int32} (hf : am_S mi pc pc' (.putfield i, 11, 2, q, z)) (hw : MW h cc aa) (fr : mFr h0 h) (k : ∀ h, MW h (uc cc 2 v) aa → mFr h0 h → am_wp mi (pc', ls, st) h Q) (hm : am_may mi 11 2 = true := by decide +kernel) : am_wp mi (pc, ls, .int (nI v) :: .ref 27 :: st) h Q := w_putf hf hm (hw 0 _ rfl) rfl rfl (k _ (mw_i2 hw v) (fr.tr (mFr.st (hw 0 _ rfl) rfl (by decide) (by decide))))
theorem m_pf3 {mi pc pc' q i v : Nat} {z : Int} {ls : am_L} {st : List Value} {h h0 : am_H} {Q : Option Value → am_H → Prop} {cc : Nat → Nat} {aa : Nat → Nat → Int32} (hf : am_S mi pc pc' (.putfield i, 11, 3, q, z)) (hw : MW h cc aa) (fr : mFr h0 h) (k : ∀ h, MW h (uc cc 3 v) aa → mFr h0 h → am_wp mi (pc', ls, st) h Q) (hm : am_may mi 11 3 = true := by decide +kernel) : am_wp mi (pc, ls, .int (nI v) :: .ref 27 :: st) h Q := w_putf hf hm (hw 0 _ rfl) rfl rfl (k _ (mw_i3 hw v) (fr.tr (mFr.st (hw 0 _ rfl) rfl (by decide) (by decide))))
theorem m_pf7 {mi pc pc' q i v : Nat} {z : Int} {ls : am_L} {st : List Value} {h h0 : am_H} {Q : Option Value → am_H → Prop} {cc : Nat → Nat} {aa : Nat → Nat → Int32} (hf : am_S mi pc pc' (.putfield i, 11, 7, q, z)) (hw : MW h cc aa) (fr : mFr h0 h) (k : ∀ h, MW h (uc cc 7 v) aa → mFr h0 h → am_wp mi (pc', ls, st) h Q) (hm : am_may mi 11 7 = true := by decide +kernel) : am_wp mi (pc, ls, .int (nI v) :: .ref 27 :: st) h Q := w_putf hf hm (hw 0 _ rfl) rfl rfl (k _ (mw_i7 hw v) (fr.tr (mFr.st (hw 0 _ rfl) rfl (by decide) (by decide))))
theorem m_pf8 {mi pc pc' q i v : Nat} {z : Int} {ls : am_L} {st : List Value} {h h0 : am_H} {Q : Option Value → am_H → Prop} {cc : Nat → Nat} {aa : Nat → Nat → Int32} (hf : am_S mi pc pc' (.putfield i, 11, 8, q, z)) (hw : MW h cc aa) (fr : mFr h0 h) (k : ∀ h, MW h (uc cc 8 v) aa → mFr h0 h → am_wp mi (pc', ls, st) h Q) (hm : am_may mi 11 8 = true := by decide +kernel) : am_wp mi (pc, ls, .int (nI v) :: .ref 27 :: st) h Q := w_putf hf hm (hw 0 _ rfl) rfl rfl (k _ (mw_i8 hw v) (fr.tr (mFr.st (hw 0 _ rfl) rfl (by decide) (by decide))))
theorem m_pf16 {mi pc pc' q i v : Nat} {z : Int} {ls : am_L} {st : List Value} {h h0 : am_H} {Q : Option Value → am_H → Prop} {cc : Nat → Nat} {aa : Nat → Nat → Int32} (hf : am_S mi pc pc' (.putfield i, 11, 16, q, z)) (hw : MW h cc aa) (fr : mFr h0 h) (k : ∀ h, MW h (uc cc 16 v) aa → mFr h0 h → am_wp mi (pc', ls, st) h Q) (hm : am_may mi 11 16 = true := by decide +kernel) : am_wp mi (pc, ls, .int (nI v) :: .ref 27 :: st) h Q := w_putf hf hm (hw 0 _ rfl) rfl rfl (k _ (mw_i16 hw v) (fr.tr (mFr.st (hw 0 _ rfl) rfl (by decide) (by decide))))
theorem m_pf20 {mi pc pc' q i v : Nat} {z : Int} {ls : am_L} {st : List Value} {h h0 : am_H} {Q : Option Value → am_H → Prop} {cc : Nat → Nat} {aa : Nat → Nat → Int32} (hf : am_S mi pc pc' (.putfield i, 11, 20, q, z)) (hw : MW h cc aa) (fr : mFr h0 h) (k : ∀ h, MW h (uc cc 20 v) aa → mFr h0 h → am_wp mi (pc', ls, st) h Q) (hm : am_may mi 11 20 = true := by decide +kernel) : am_wp mi (pc, ls, .int (nI v) :: .ref 27 :: st) h Q := w_putf hf hm (hw 0 _ rfl) rfl rfl (k _ (mw_i20 hw v) (fr.tr (mFr.st (hw 0 _ rfl) rfl (by decide) (by decide))))
theorem m_pf28 {mi pc pc' q i v : Nat} {z : Int} {ls : am_L} {st : List Value} {h h0 : am_H} {Q : Option Value → am_H → Prop} {cc : Nat → Nat} {aa : Nat → Nat → Int32} (hf : am_S mi pc pc' (.putfield i, 11, 28, q, z)) (hw : MW h cc aa) (fr : mFr h0 h) (k : ∀ h, MW h (uc cc 28 v) aa → mFr h0 h → am_wp mi (pc', ls, st) h Q) (hm : am_may mi 11 28 = true := by decide +kernel) : am_wp mi (pc, ls, .int (nI v) :: .ref 27 :: st) h Q := w_putf hf hm (hw 0 _ rfl) rfl rfl (k _ (mw_i28 hw v) (fr.tr (mFr.st (hw 0 _ rfl) rfl (by decide) (by decide))))
theorem m_pf31 {mi pc pc' q i v : Nat} {z : Int} {ls : am_L} {st : List Value} {h h0 : am_H} {Q : Option Value → am_H → Prop} {cc : Nat → Nat} {aa : Nat → Nat → Int32} (hf : am_S mi pc pc' (.putfield i, 11, 31, q, z)) (hw : MW h cc aa) (fr : mFr h0 h) (k : ∀ h, MW h (uc cc 31 v) aa → mFr h0 h → am_wp mi (pc', ls, st) h Q) (hm : am_may mi 11 31 = true := by decide +kernel) : am_wp mi (pc, ls, .int (nI v) :: .ref 27 :: st) h Q := w_putf hf hm (hw 0 _ rfl) rfl rfl (k _ (mw_i31 hw v) (fr.tr (mFr.st (hw 0 _ rfl) rfl (by decide) (by decide))))
theorem m_pf38 {mi pc pc' q i v : Nat} {z : Int} {ls : am_L} {st : List Value} {h h0 : am_H} {Q : Option Value → am_H → Prop} {cc : Nat → Nat} {aa : Nat → Nat → Int32} (hf : am_S mi pc pc' (.putfield i, 11, 38, q, z)) (hw : MW h cc aa) (fr : mFr h0 h) (k : ∀ h, MW h (uc cc 38 v) aa → mFr h0 h → am_wp mi (pc', ls, st) h Q) (hm : am_may mi 11 38 = true := by decide +kernel) : am_wp mi (pc, ls, .int (nI v) :: .ref 27 :: st) h Q := w_putf hf hm (hw 0 _ rfl) rfl rfl (k _ (mw_i38 hw v) (fr.tr (mFr.st (hw 0 _ rfl) rfl (by decide) (by decide))))
theorem m_pf45 {mi pc pc' q i v : Nat} {z : Int} {ls : am_L} {st : List Value} {h h0 : am_H} {Q : Option Value → am_H → Prop} {cc : Nat → Nat} {aa : Nat → Nat → Int32} (hf : am_S mi pc pc' (.putfield i, 11, 45, q, z)) (hw : MW h cc aa) (fr : mFr h0 h) (k : ∀ h, MW h (uc cc 45 v) aa → mFr h0 h → am_wp mi (pc', ls, st) h Q) (hm : am_may mi 11 45 = true := by decide +kernel) : am_wp mi (pc, ls, .int (nI v) :: .ref 27 :: st) h Q := w_putf hf hm (hw 0 _ rfl) rfl rfl (k _ (mw_i45 hw v) (fr.tr (mFr.st (hw 0 _ rfl) rfl (by decide) (by decide))))
theorem c103 (v lo hi : Int32) (h : am_H) : am_rd 103 [.int v, .int lo, .int hi] h (.int (am_bi (x_in v lo hi))) := by
  show am_wp _ (_, [_, _, _], _) _ _
  refine w_iload_n s103_0 rfl ?_
  refine w_iload_n s103_1 rfl ?_
  refine w_icmplt s103_2 rfl  (fun c2 => ?_) (fun c2 => ?_)
  · skip
    refine w_iconst (v := 0) s103_14 rfl ?_
    refine w_zret0 s103_15 rk103 ?_
    first | exact ⟨am_zz (x_in_t (by assumption) (by assumption)), rfl⟩ | exact ⟨am_zo (x_in_f1 (by assumption)), rfl⟩ | exact ⟨am_zo (x_in_f2 (by assumption)), rfl⟩
  · skip
    refine w_iload_n s103_5 rfl ?_
    refine w_iload_n s103_6 rfl ?_
    refine w_icmpgt s103_7 rfl  (fun c7 => ?_) (fun c7 => ?_)
    · skip
      refine w_iconst (v := 0) s103_14 rfl ?_
      refine w_zret0 s103_15 rk103 ?_
      first | exact ⟨am_zz (x_in_t (by assumption) (by assumption)), rfl⟩ | exact ⟨am_zo (x_in_f1 (by assumption)), rfl⟩ | exact ⟨am_zo (x_in_f2 (by assumption)), rfl⟩
    · skip
      refine w_iconst (v := 1) s103_10 rfl ?_
      refine w_goto s103_11 rfl ?_
      refine w_zret1 s103_15 rk103 ?_
      first | exact ⟨am_zz (x_in_t (by assumption) (by assumption)), rfl⟩ | exact ⟨am_zo (x_in_f1 (by assumption)), rfl⟩ | exact ⟨am_zo (x_in_f2 (by assumption)), rfl⟩
theorem c105 (v k : Int32) (h : am_H) : am_rd 105 [.int v, .int k] h (.int (am_bi (x_has v k))) := by
  show am_wp _ (_, [_, _], _) _ _
  refine w_iload_n s105_0 rfl ?_
  refine w_iload_n s105_1 rfl ?_
  refine w_ishr s105_2 rfl ?_
  refine w_iconst (v := 1) s105_3 rfl ?_
  refine w_iand s105_4 rfl ?_
  refine w_iconst (v := 1) s105_5 rfl ?_
  refine w_icmpne s105_6 rfl  (fun c6 => ?_) (fun c6 => ?_)
  · skip
    refine w_iconst (v := 0) s105_13 rfl ?_
    refine w_zret0 s105_14 rk105 ?_
    first | exact ⟨am_zz (decide_eq_true (by assumption)), rfl⟩ | exact ⟨am_zo (decide_eq_false (by assumption)), rfl⟩
  · skip
    refine w_iconst (v := 1) s105_9 rfl ?_
    refine w_goto s105_10 rfl ?_
    refine w_zret1 s105_14 rk105 ?_
    first | exact ⟨am_zz (decide_eq_true (by assumption)), rfl⟩ | exact ⟨am_zo (decide_eq_false (by assumption)), rfl⟩
theorem c107 {h : am_H} {cc : Nat → Nat} {aa : Nat → Nat → Int32} (hw : MW h cc aa) (iv : IV cc aa) (s : Int32) : am_rd 107 [.ref 27, .int s] h (.int (am_bi (x_ix (cc 3) s))) := by
  have n0 := iv.n0
  have n2 := iv.n2
  have n3 := iv.n3
  have n7 := iv.n7
  have n8 := iv.n8
  have n16 := iv.n16
  have n20 := iv.n20
  have n28 := iv.n28
  have n31 := iv.n31
  have n38 := iv.n38
  have n45 := iv.n45
  show am_wp _ (_, [_, _], _) _ _
  refine w_iload_n s107_0 rfl ?_
  refine w_iconst (v := 0) s107_1 rfl ?_
  refine w_aload_n s107_2 rfl ?_
  refine w_getf s107_3 (hw 0 _ rfl) rfl ?_
  refine w_iconst (v := 1) s107_6 rfl ?_
  refine w_isub s107_7 rfl ?_
  refine w_callS3r s107_8 mc107_103 rfl rfl (c103 _ _ _ _) ?_
  refine w_zret s107_11 rk107 ?_
  exact ⟨by rw [x_in_ix (by omega)], rfl⟩
theorem c135 {h : am_H} {cc : Nat → Nat} {aa : Nat → Nat → Int32} (hw : MW h cc aa) (iv : IV cc aa) (s : Int32) : am_rd 135 [.ref 27, .int s] h (.int (am_bi (x_ix (cc 20) s))) := by
  have n0 := iv.n0
  have n2 := iv.n2
  have n3 := iv.n3
  have n7 := iv.n7
  have n8 := iv.n8
  have n16 := iv.n16
  have n20 := iv.n20
  have n28 := iv.n28
  have n31 := iv.n31
  have n38 := iv.n38
  have n45 := iv.n45
  show am_wp _ (_, [_, _], _) _ _
  refine w_iload_n s135_0 rfl ?_
  refine w_iconst (v := 0) s135_1 rfl ?_
  refine w_aload_n s135_2 rfl ?_
  refine w_getf s135_3 (hw 0 _ rfl) rfl ?_
  refine w_iconst (v := 1) s135_6 rfl ?_
  refine w_isub s135_7 rfl ?_
  refine w_callS3r s135_8 mc135_103 rfl rfl (c103 _ _ _ _) ?_
  refine w_zret s135_11 rk135 ?_
  exact ⟨by rw [x_in_ix (by omega)], rfl⟩
theorem c148 {h : am_H} {cc : Nat → Nat} {aa : Nat → Nat → Int32} (hw : MW h cc aa) (iv : IV cc aa) (s : Int32) : am_rd 148 [.ref 27, .int s] h (.int (am_bi (x_ix (cc 28) s))) := by
  have n0 := iv.n0
  have n2 := iv.n2
  have n3 := iv.n3
  have n7 := iv.n7
  have n8 := iv.n8
  have n16 := iv.n16
  have n20 := iv.n20
  have n28 := iv.n28
  have n31 := iv.n31
  have n38 := iv.n38
  have n45 := iv.n45
  show am_wp _ (_, [_, _], _) _ _
  refine w_iload_n s148_0 rfl ?_
  refine w_iconst (v := 0) s148_1 rfl ?_
  refine w_aload_n s148_2 rfl ?_
  refine w_getf s148_3 (hw 0 _ rfl) rfl ?_
  refine w_iconst (v := 1) s148_6 rfl ?_
  refine w_isub s148_7 rfl ?_
  refine w_callS3r s148_8 mc148_103 rfl rfl (c103 _ _ _ _) ?_
  refine w_zret s148_11 rk148 ?_
  exact ⟨by rw [x_in_ix (by omega)], rfl⟩
theorem c113 (s : Int32) (h : am_H) : am_rd 113 [.int s] h (.int (am_bi (x_in s 0 500))) := by
  show am_wp _ (_, [_], _) _ _
  refine w_iload_n s113_0 rfl ?_
  refine w_iconst (v := 0) s113_1 rfl ?_
  refine w_sipush (v := 500) s113_2 rfl ?_
  refine w_callS3r s113_5 mc113_103 rfl rfl (c103 _ _ _ _) ?_
  refine w_zret s113_8 rk113 ?_
  exact ⟨rfl, rfl⟩
theorem c117 (s : Int32) (h : am_H) : am_rd 117 [.int s] h (.int (am_bi (x_in s 0 3))) := by
  show am_wp _ (_, [_], _) _ _
  refine w_iload_n s117_0 rfl ?_
  refine w_iconst (v := 0) s117_1 rfl ?_
  refine w_iconst (v := 3) s117_2 rfl ?_
  refine w_callS3r s117_3 mc117_103 rfl rfl (c103 _ _ _ _) ?_
  refine w_zret s117_6 rk117 ?_
  exact ⟨rfl, rfl⟩
theorem c160 (s : Int32) (h : am_H) : am_rd 160 [.int s] h (.int (am_bi (x_in s 0 9))) := by
  show am_wp _ (_, [_], _) _ _
  refine w_iload_n s160_0 rfl ?_
  refine w_iconst (v := 0) s160_1 rfl ?_
  refine w_bipush (v := 9) s160_2 rfl ?_
  refine w_callS3r s160_4 mc160_103 rfl rfl (c103 _ _ _ _) ?_
  refine w_zret s160_7 rk160 ?_
  exact ⟨rfl, rfl⟩
theorem c123 (s : Int32) (h : am_H) : am_rd 123 [.int s] h (.int (am_bi (x_in s 48 57))) := by
  show am_wp _ (_, [_], _) _ _
  refine w_iload_n s123_0 rfl ?_
  refine w_bipush (v := 48) s123_1 rfl ?_
  refine w_bipush (v := 57) s123_3 rfl ?_
  refine w_callS3r s123_5 mc123_103 rfl rfl (c103 _ _ _ _) ?_
  refine w_zret s123_8 rk123 ?_
  exact ⟨rfl, rfl⟩
theorem c124 (s : Int32) (h : am_H) : am_rd 124 [.int s] h (.int (x_small s)) := by
  show am_wp _ (_, [_], _) _ _
  refine w_iload_n s124_0 rfl ?_
  refine w_bipush (v := 65) s124_1 rfl ?_
  refine w_bipush (v := 90) s124_3 rfl ?_
  refine w_callS3r s124_5 mc124_103 rfl rfl (c103 _ _ _ _) ?_
  refine w_ifeqB s124_8 rfl  (fun c8 => ?_) (fun c8 => ?_)
  · skip
    refine w_iload_n s124_18 rfl ?_
    refine w_iret s124_19 rk124 ?_
    exact ⟨by simp [x_small, *], rfl⟩
  · skip
    refine w_iload_n s124_11 rfl ?_
    refine w_bipush (v := 32) s124_12 rfl ?_
    refine w_iadd s124_14 rfl ?_
    refine w_goto s124_15 rfl ?_
    refine w_iret s124_19 rk124 ?_
    exact ⟨by simp [x_small, *], rfl⟩
theorem c125 (s : Int32) (h : am_H) : am_rd 125 [.int s] h (.int (am_bi (x_sign s))) := by
  show am_wp _ (_, [_], _) _ _
  refine w_iload_n s125_0 rfl ?_
  refine w_callS1r s125_1 mc125_123 rfl rfl (c123 _ _) ?_
  refine w_ifneB s125_4 rfl  (fun c4 => ?_) (fun c4 => ?_)
  · skip
    refine w_iconst (v := 1) s125_21 rfl ?_
    refine w_goto s125_22 rfl ?_
    refine w_zret1 s125_26 rk125 ?_
    first | exact ⟨am_zz (by simp [x_sign, *]), rfl⟩ | exact ⟨am_zo (by simp [x_sign, *]), rfl⟩
  · skip
    refine w_iload_n s125_7 rfl ?_
    refine w_callS1r s125_8 mc125_124 rfl rfl (c124 _ _) ?_
    refine w_bipush (v := 97) s125_11 rfl ?_
    refine w_bipush (v := 122) s125_13 rfl ?_
    refine w_callS3r s125_15 mc125_103 rfl rfl (c103 _ _ _ _) ?_
    refine w_ifeqB s125_18 rfl  (fun c18 => ?_) (fun c18 => ?_)
    · skip
      refine w_iconst (v := 0) s125_25 rfl ?_
      refine w_zret0 s125_26 rk125 ?_
      first | exact ⟨am_zz (by simp [x_sign, *]), rfl⟩ | exact ⟨am_zo (by simp [x_sign, *]), rfl⟩
    · skip
      refine w_iconst (v := 1) s125_21 rfl ?_
      refine w_goto s125_22 rfl ?_
      refine w_zret1 s125_26 rk125 ?_
      first | exact ⟨am_zz (by simp [x_sign, *]), rfl⟩ | exact ⟨am_zo (by simp [x_sign, *]), rfl⟩
theorem c136 (i k : Int32) (h : am_H) : am_rd 136 [.int i, .int k] h (.int (am_bi (x_fits i k))) := by
  show am_wp _ (_, [_, _], _) _ _
  refine w_iload_n s136_0 rfl ?_
  refine w_ifeq s136_1 rfl  (fun c1 => ?_) (fun c1 => ?_)
  · skip
    refine w_iconst (v := 1) s136_29 rfl ?_
    refine w_goto s136_30 rfl ?_
    refine w_zret1 s136_34 rk136 ?_
    first | exact ⟨am_zz (by simp_all [x_fits]), rfl⟩ | exact ⟨am_zo (by simp_all [x_fits]), rfl⟩ | exact ⟨am_zo (by simp [x_fits, *]; (try simp_all); (try exact fun e => absurd e.symm (by assumption))), rfl⟩ | exact (by simp_all)
  · skip
    refine w_iload_n s136_4 rfl ?_
    refine w_iload_n s136_5 rfl ?_
    refine w_icmpeq s136_6 rfl  (fun c6 => ?_) (fun c6 => ?_)
    · skip
      refine w_iconst (v := 1) s136_29 rfl ?_
      refine w_goto s136_30 rfl ?_
      refine w_zret1 s136_34 rk136 ?_
      first | exact ⟨am_zz (by simp_all [x_fits]), rfl⟩ | exact ⟨am_zo (by simp_all [x_fits]), rfl⟩ | exact ⟨am_zo (by simp [x_fits, *]; (try simp_all); (try exact fun e => absurd e.symm (by assumption))), rfl⟩ | exact (by simp_all)
    · skip
      refine w_iload_n s136_9 rfl ?_
      refine w_iconst (v := 1) s136_10 rfl ?_
      refine w_icmpne s136_11 rfl  (fun c11 => ?_) (fun c11 => ?_)
      · skip
        refine w_iload_n s136_19 rfl ?_
        refine w_iconst (v := 4) s136_20 rfl ?_
        refine w_icmpne s136_21 rfl  (fun c21 => ?_) (fun c21 => ?_)
        · skip
          refine w_iconst (v := 0) s136_33 rfl ?_
          refine w_zret0 s136_34 rk136 ?_
          first | exact ⟨am_zz (by simp_all [x_fits]), rfl⟩ | exact ⟨am_zo (by simp_all [x_fits]), rfl⟩ | exact ⟨am_zo (by simp [x_fits, *]; (try simp_all); (try exact fun e => absurd e.symm (by assumption))), rfl⟩ | exact (by simp_all)
        · skip
          refine w_iload_n s136_24 rfl ?_
          refine w_iconst (v := 5) s136_25 rfl ?_
          refine w_icmpne s136_26 rfl  (fun c26 => ?_) (fun c26 => ?_)
          · skip
            refine w_iconst (v := 0) s136_33 rfl ?_
            refine w_zret0 s136_34 rk136 ?_
            first | exact ⟨am_zz (by simp_all [x_fits]), rfl⟩ | exact ⟨am_zo (by simp_all [x_fits]), rfl⟩ | exact ⟨am_zo (by simp [x_fits, *]; (try simp_all); (try exact fun e => absurd e.symm (by assumption))), rfl⟩ | exact (by simp_all)
          · skip
            refine w_iconst (v := 1) s136_29 rfl ?_
            refine w_goto s136_30 rfl ?_
            refine w_zret1 s136_34 rk136 ?_
            first | exact ⟨am_zz (by simp_all [x_fits]), rfl⟩ | exact ⟨am_zo (by simp_all [x_fits]), rfl⟩ | exact ⟨am_zo (by simp [x_fits, *]; (try simp_all); (try exact fun e => absurd e.symm (by assumption))), rfl⟩ | exact (by simp_all)
      · skip
        refine w_iload_n s136_14 rfl ?_
        refine w_iconst (v := 2) s136_15 rfl ?_
        refine w_icmpeq s136_16 rfl  (fun c16 => ?_) (fun c16 => ?_)
        · skip
          refine w_iconst (v := 1) s136_29 rfl ?_
          refine w_goto s136_30 rfl ?_
          refine w_zret1 s136_34 rk136 ?_
          first | exact ⟨am_zz (by simp_all [x_fits]), rfl⟩ | exact ⟨am_zo (by simp_all [x_fits]), rfl⟩ | exact ⟨am_zo (by simp [x_fits, *]; (try simp_all); (try exact fun e => absurd e.symm (by assumption))), rfl⟩ | exact (by simp_all)
        · skip
          refine w_iload_n s136_19 rfl ?_
          refine w_iconst (v := 4) s136_20 rfl ?_
          refine w_icmpne s136_21 rfl  (fun c21 => ?_) (fun c21 => ?_)
          · skip
            refine w_iconst (v := 0) s136_33 rfl ?_
            refine w_zret0 s136_34 rk136 ?_
            first | exact ⟨am_zz (by simp_all [x_fits]), rfl⟩ | exact ⟨am_zo (by simp_all [x_fits]), rfl⟩ | exact ⟨am_zo (by simp [x_fits, *]; (try simp_all); (try exact fun e => absurd e.symm (by assumption))), rfl⟩ | exact (by simp_all)
          · skip
            refine w_iload_n s136_24 rfl ?_
            refine w_iconst (v := 5) s136_25 rfl ?_
            refine w_icmpne s136_26 rfl  (fun c26 => ?_) (fun c26 => ?_)
            · skip
              refine w_iconst (v := 0) s136_33 rfl ?_
              refine w_zret0 s136_34 rk136 ?_
              first | exact ⟨am_zz (by simp_all [x_fits]), rfl⟩ | exact ⟨am_zo (by simp_all [x_fits]), rfl⟩ | exact ⟨am_zo (by simp [x_fits, *]; (try simp_all); (try exact fun e => absurd e.symm (by assumption))), rfl⟩ | exact (by simp_all)
            · skip
              refine w_iconst (v := 1) s136_29 rfl ?_
              refine w_goto s136_30 rfl ?_
              refine w_zret1 s136_34 rk136 ?_
              first | exact ⟨am_zz (by simp_all [x_fits]), rfl⟩ | exact ⟨am_zo (by simp_all [x_fits]), rfl⟩ | exact ⟨am_zo (by simp [x_fits, *]; (try simp_all); (try exact fun e => absurd e.symm (by assumption))), rfl⟩ | exact (by simp_all)
theorem c109 {h : am_H} {cc : Nat → Nat} {aa : Nat → Nat → Int32} (hw : MW h cc aa) (hn : cc 3 ≤ 10) (a b : Int32) (ha : x_ix (cc 3) a = true) (hb : x_ix (cc 3) b = true) : am_rd 109 [.ref 27, .int a, .int b] h (.int (x_walks aa a b)) := by
  have ha := am_outm ha hn (by decide)
  have hb := am_outm hb hn (by decide)
  show am_wp _ (_, [_, _, _, _, _], _) _ _
  refine w_aload_n s109_0 rfl ?_
  refine w_getf s109_1 (hw 0 _ rfl) rfl ?_
  refine w_iload_n s109_4 rfl ?_
  refine w_ialdI s109_5 (hw 2 _ rfl) (by assumption) ?_
  refine w_aload_n s109_6 rfl ?_
  refine w_getf s109_7 (hw 0 _ rfl) rfl ?_
  refine w_iload_n s109_10 rfl ?_
  refine w_ialdI s109_11 (hw 2 _ rfl) (by assumption) ?_
  refine w_icmple s109_12 rfl  (fun c12 => ?_) (fun c12 => ?_)
  · skip
    refine w_aload_n s109_31 rfl ?_
    refine w_getf s109_32 (hw 0 _ rfl) rfl ?_
    refine w_iload_n s109_35 rfl ?_
    refine w_ialdI s109_36 (hw 2 _ rfl) (by assumption) ?_
    refine w_aload_n s109_37 rfl ?_
    refine w_getf s109_38 (hw 0 _ rfl) rfl ?_
    refine w_iload_n s109_41 rfl ?_
    refine w_ialdI s109_42 (hw 2 _ rfl) (by assumption) ?_
    refine w_isub s109_43 rfl ?_
    refine w_istore_n s109_44 rfl ?_
    show am_wp _ (_, [_, _, _, _, _], _) _ _
    refine w_aload_n s109_45 rfl ?_
    refine w_getf s109_46 (hw 0 _ rfl) rfl ?_
    refine w_iload_n s109_49 rfl ?_
    refine w_ialdI s109_50 (hw 3 _ rfl) (by assumption) ?_
    refine w_aload_n s109_51 rfl ?_
    refine w_getf s109_52 (hw 0 _ rfl) rfl ?_
    refine w_iload_n s109_55 rfl ?_
    refine w_ialdI s109_56 (hw 3 _ rfl) (by assumption) ?_
    refine w_icmple s109_57 rfl  (fun c57 => ?_) (fun c57 => ?_)
    · skip
      refine w_aload_n s109_76 rfl ?_
      refine w_getf s109_77 (hw 0 _ rfl) rfl ?_
      refine w_iload_n s109_80 rfl ?_
      refine w_ialdI s109_81 (hw 3 _ rfl) (by assumption) ?_
      refine w_aload_n s109_82 rfl ?_
      refine w_getf s109_83 (hw 0 _ rfl) rfl ?_
      refine w_iload_n s109_86 rfl ?_
      refine w_ialdI s109_87 (hw 3 _ rfl) (by assumption) ?_
      refine w_isub s109_88 rfl ?_
      refine w_istore s109_89 rfl ?_
      show am_wp _ (_, [_, _, _, _, _], _) _ _
      refine w_iload_n s109_91 rfl ?_
      refine w_iload s109_92 rfl ?_
      refine w_iadd s109_94 rfl ?_
      refine w_iret s109_95 rk109 ?_
      exact ⟨by simp [x_walks, x_ad, tn, *], rfl⟩
    · skip
      refine w_aload_n s109_60 rfl ?_
      refine w_getf s109_61 (hw 0 _ rfl) rfl ?_
      refine w_iload_n s109_64 rfl ?_
      refine w_ialdI s109_65 (hw 3 _ rfl) (by assumption) ?_
      refine w_aload_n s109_66 rfl ?_
      refine w_getf s109_67 (hw 0 _ rfl) rfl ?_
      refine w_iload_n s109_70 rfl ?_
      refine w_ialdI s109_71 (hw 3 _ rfl) (by assumption) ?_
      refine w_isub s109_72 rfl ?_
      refine w_goto s109_73 rfl ?_
      refine w_istore s109_89 rfl ?_
      show am_wp _ (_, [_, _, _, _, _], _) _ _
      refine w_iload_n s109_91 rfl ?_
      refine w_iload s109_92 rfl ?_
      refine w_iadd s109_94 rfl ?_
      refine w_iret s109_95 rk109 ?_
      exact ⟨by simp [x_walks, x_ad, tn, *], rfl⟩
  · skip
    refine w_aload_n s109_15 rfl ?_
    refine w_getf s109_16 (hw 0 _ rfl) rfl ?_
    refine w_iload_n s109_19 rfl ?_
    refine w_ialdI s109_20 (hw 2 _ rfl) (by assumption) ?_
    refine w_aload_n s109_21 rfl ?_
    refine w_getf s109_22 (hw 0 _ rfl) rfl ?_
    refine w_iload_n s109_25 rfl ?_
    refine w_ialdI s109_26 (hw 2 _ rfl) (by assumption) ?_
    refine w_isub s109_27 rfl ?_
    refine w_goto s109_28 rfl ?_
    refine w_istore_n s109_44 rfl ?_
    show am_wp _ (_, [_, _, _, _, _], _) _ _
    refine w_aload_n s109_45 rfl ?_
    refine w_getf s109_46 (hw 0 _ rfl) rfl ?_
    refine w_iload_n s109_49 rfl ?_
    refine w_ialdI s109_50 (hw 3 _ rfl) (by assumption) ?_
    refine w_aload_n s109_51 rfl ?_
    refine w_getf s109_52 (hw 0 _ rfl) rfl ?_
    refine w_iload_n s109_55 rfl ?_
    refine w_ialdI s109_56 (hw 3 _ rfl) (by assumption) ?_
    refine w_icmple s109_57 rfl  (fun c57 => ?_) (fun c57 => ?_)
    · skip
      refine w_aload_n s109_76 rfl ?_
      refine w_getf s109_77 (hw 0 _ rfl) rfl ?_
      refine w_iload_n s109_80 rfl ?_
      refine w_ialdI s109_81 (hw 3 _ rfl) (by assumption) ?_
      refine w_aload_n s109_82 rfl ?_
      refine w_getf s109_83 (hw 0 _ rfl) rfl ?_
      refine w_iload_n s109_86 rfl ?_
      refine w_ialdI s109_87 (hw 3 _ rfl) (by assumption) ?_
      refine w_isub s109_88 rfl ?_
      refine w_istore s109_89 rfl ?_
      show am_wp _ (_, [_, _, _, _, _], _) _ _
      refine w_iload_n s109_91 rfl ?_
      refine w_iload s109_92 rfl ?_
      refine w_iadd s109_94 rfl ?_
      refine w_iret s109_95 rk109 ?_
      exact ⟨by simp [x_walks, x_ad, tn, *], rfl⟩
    · skip
      refine w_aload_n s109_60 rfl ?_
      refine w_getf s109_61 (hw 0 _ rfl) rfl ?_
      refine w_iload_n s109_64 rfl ?_
      refine w_ialdI s109_65 (hw 3 _ rfl) (by assumption) ?_
      refine w_aload_n s109_66 rfl ?_
      refine w_getf s109_67 (hw 0 _ rfl) rfl ?_
      refine w_iload_n s109_70 rfl ?_
      refine w_ialdI s109_71 (hw 3 _ rfl) (by assumption) ?_
      refine w_isub s109_72 rfl ?_
      refine w_goto s109_73 rfl ?_
      refine w_istore s109_89 rfl ?_
      show am_wp _ (_, [_, _, _, _, _], _) _ _
      refine w_iload_n s109_91 rfl ?_
      refine w_iload s109_92 rfl ?_
      refine w_iadd s109_94 rfl ?_
      refine w_iret s109_95 rk109 ?_
      exact ⟨by simp [x_walks, x_ad, tn, *], rfl⟩
