/-! rules for numbers that are naturals -/
theorem nI_inc (a : Nat) : nI a + Int32.ofInt 1 = nI (a + 1) := nI_1 a
theorem nI_lt0 {a : Nat} (h : a < 2 ^ 31) : ¬ nI a < 0 := nI_pos h
section AMN
variable {mi pc pc' t a b q : Nat} {z : Int} {ls ls' : am_L} {st : List Value} {h : am_H} {Q : Option Value → am_H → Prop} {x y : Nat}
theorem w_iaddN (hf : am_S mi pc pc' (.iadd, a, b, q, z)) (k : am_wp mi (pc', ls, .int (nI (x + y)) :: st) h Q) : am_wp mi (pc, ls, .int (nI y) :: .int (nI x) :: st) h Q := w_iadd hf (nI_add x y) k
theorem w_imulN (hf : am_S mi pc pc' (.imul, a, b, q, z)) (k : am_wp mi (pc', ls, .int (nI (x * y)) :: st) h Q) : am_wp mi (pc, ls, .int (nI y) :: .int (nI x) :: st) h Q := w_imul hf (pk_mul x y) k
theorem w_isubN (hf : am_S mi pc pc' (.isub, a, b, q, z)) (hxy : y ≤ x) (k : am_wp mi (pc', ls, .int (nI (x - y)) :: st) h Q) : am_wp mi (pc, ls, .int (nI y) :: .int (nI x) :: st) h Q := w_isub hf (pk_sub hxy) k
theorem w_idivN (hf : am_S mi pc pc' (.idiv, a, b, q, z)) (hx : x < 2 ^ 31) (h0 : 0 < y) (hy : y < 2 ^ 31) (k : am_wp mi (pc', ls, .int (nI (x / y)) :: st) h Q) : am_wp mi (pc, ls, .int (nI y) :: .int (nI x) :: st) h Q := w_idiv hf (nI_ne0 h0 hy) (pk_div hx h0 hy) k
theorem w_iremN (hf : am_S mi pc pc' (.irem, a, b, q, z)) (hx : x < 2 ^ 31) (h0 : 0 < y) (hy : y < 2 ^ 31) (k : am_wp mi (pc', ls, .int (nI (x % y)) :: st) h Q) : am_wp mi (pc, ls, .int (nI y) :: .int (nI x) :: st) h Q := w_irem hf (nI_ne0 h0 hy) (pk_rem hx h0 hy) k
theorem w_icmpltN {off : Int} (hf : am_S mi pc pc' (.if_icmp .lt off, a, b, q, z)) (ht : am_tg pc off = some t) (hx : x < 2 ^ 31) (hy : y < 2 ^ 31) (kt : x < y → am_wp mi (t, ls, st) h Q) (kf : y ≤ x → am_wp mi (pc', ls, st) h Q) : am_wp mi (pc, ls, .int (nI y) :: .int (nI x) :: st) h Q := w_icmplt hf ht (fun c => kt ((nI_ltI hx hy).mp c)) (fun c => kf (Nat.not_lt.mp fun d => c ((nI_ltI hx hy).mpr d)))
theorem w_icmpgeN {off : Int} (hf : am_S mi pc pc' (.if_icmp .ge off, a, b, q, z)) (ht : am_tg pc off = some t) (hx : x < 2 ^ 31) (hy : y < 2 ^ 31) (kt : y ≤ x → am_wp mi (t, ls, st) h Q) (kf : x < y → am_wp mi (pc', ls, st) h Q) : am_wp mi (pc, ls, .int (nI y) :: .int (nI x) :: st) h Q := w_icmpge hf ht (fun c => kt ((nI_leI hy hx).mp c)) (fun c => kf (Nat.not_le.mp fun d => c ((nI_leI hy hx).mpr d)))
theorem w_icmpgtN {off : Int} (hf : am_S mi pc pc' (.if_icmp .gt off, a, b, q, z)) (ht : am_tg pc off = some t) (hx : x < 2 ^ 31) (hy : y < 2 ^ 31) (kt : y < x → am_wp mi (t, ls, st) h Q) (kf : x ≤ y → am_wp mi (pc', ls, st) h Q) : am_wp mi (pc, ls, .int (nI y) :: .int (nI x) :: st) h Q := w_icmpgt hf ht (fun c => kt ((nI_ltI hy hx).mp c)) (fun c => kf (Nat.not_lt.mp fun d => c ((nI_ltI hy hx).mpr d)))
theorem w_icmpleN {off : Int} (hf : am_S mi pc pc' (.if_icmp .le off, a, b, q, z)) (ht : am_tg pc off = some t) (hx : x < 2 ^ 31) (hy : y < 2 ^ 31) (kt : x ≤ y → am_wp mi (t, ls, st) h Q) (kf : y < x → am_wp mi (pc', ls, st) h Q) : am_wp mi (pc, ls, .int (nI y) :: .int (nI x) :: st) h Q := w_icmple hf ht (fun c => kt ((nI_leI hx hy).mp c)) (fun c => kf (Nat.not_le.mp fun d => c ((nI_leI hx hy).mpr d)))
theorem w_icmpeqN {off : Int} (hf : am_S mi pc pc' (.if_icmp .eq off, a, b, q, z)) (ht : am_tg pc off = some t) (hx : x < 2 ^ 31) (hy : y < 2 ^ 31) (kt : x = y → am_wp mi (t, ls, st) h Q) (kf : ¬ x = y → am_wp mi (pc', ls, st) h Q) : am_wp mi (pc, ls, .int (nI y) :: .int (nI x) :: st) h Q := w_icmpeq hf ht (fun c => kt ((nI_eq hx hy).mp c)) (fun c => kf (fun d => c ((nI_eq hx hy).mpr d)))
theorem w_icmpneN {off : Int} (hf : am_S mi pc pc' (.if_icmp .ne off, a, b, q, z)) (ht : am_tg pc off = some t) (hx : x < 2 ^ 31) (hy : y < 2 ^ 31) (kt : ¬ x = y → am_wp mi (t, ls, st) h Q) (kf : x = y → am_wp mi (pc', ls, st) h Q) : am_wp mi (pc, ls, .int (nI y) :: .int (nI x) :: st) h Q := w_icmpne hf ht (fun c => kt (fun d => c ((nI_eq hx hy).mpr d))) (fun c => kf ((nI_eq hx hy).mp c))
theorem w_ialdN {n : Nat} {f : Nat → Int32} (hf : am_S mi pc pc' (.iaload, a, b, q, z)) (hh : h[x]? = some (.inl (0, n, .inl f))) (hj : y < n) (hn : n < 2 ^ 31) (k : am_wp mi (pc', ls, .int (f y) :: st) h Q) : am_wp mi (pc, ls, .int (nI y) :: .ref x :: st) h Q := w_iald hf hh (am_inb hj hn) (by rw [nI_clamp (Nat.lt_trans hj hn)]) k
theorem w_ialdI {n : Nat} {f : Nat → Int32} {i : Int32} (hf : am_S mi pc pc' (.iaload, a, b, q, z)) (hh : h[x]? = some (.inl (0, n, .inl f))) (hi : am_outb i n = false) (k : am_wp mi (pc', ls, .int (f i.toNatClampNeg) :: st) h Q) : am_wp mi (pc, ls, .int i :: .ref x :: st) h Q := w_iald hf hh hi rfl k
theorem w_baldN {n r : Nat} {f : Nat → Int32} (hf : am_S mi pc pc' (.baload, a, b, q, z)) (hh : h[x]? = some (.inl (r, n, .inl f))) (ht : r = 1 ∨ r = 2) (hj : y < n) (hn : n < 2 ^ 31) (k : am_wp mi (pc', ls, .int (f y) :: st) h Q) : am_wp mi (pc, ls, .int (nI y) :: .ref x :: st) h Q := w_bald hf hh ht (am_inb hj hn) (by rw [nI_clamp (Nat.lt_trans hj hn)]) k
theorem w_iastN {n : Nat} {f : Nat → Int32} {v : Int32} (hf : am_S mi pc pc' (.iastore, a, b, q, z)) (hh : h[x]? = some (.inl (0, n, .inl f))) (hj : y < n) (hn : n < 2 ^ 31) (k : am_wp mi (pc', ls, st) (h.set x (.inl (0, n, .inl (upd f y v)))) Q) : am_wp mi (pc, ls, .int v :: .int (nI y) :: .ref x :: st) h Q := w_iast hf hh (am_inb hj hn) (by rw [nI_clamp (Nat.lt_trans hj hn)]; exact k)
theorem w_bastN {n r : Nat} {f : Nat → Int32} {v : Int32} (hf : am_S mi pc pc' (.bastore, a, b, q, z)) (hh : h[x]? = some (.inl (r, n, .inl f))) (ht : r = 1 ∨ r = 2) (hj : y < n) (hn : n < 2 ^ 31) (k : am_wp mi (pc', ls, st) (h.set x (.inl (r, n, .inl (upd f y (am_nrw r v))))) Q) : am_wp mi (pc, ls, .int v :: .int (nI y) :: .ref x :: st) h Q := w_bast hf hh ht (am_inb hj hn) (by rw [nI_clamp (Nat.lt_trans hj hn)]; exact k)
/-- a tail that ends a test: 1 or 0 -/
theorem am_zz {c : Bool} (hc : c = true) : some (Value.int 1) = some (Value.int (am_bi c)) := by rw [hc]; rfl
theorem am_zo {c : Bool} (hc : c = false) : some (Value.int 0) = some (Value.int (am_bi c)) := by rw [hc]; rfl
end AMN
/-- a loop that counts up to n -/
theorem am_up {P : Nat → Prop} {n : Nat} (hn : P n) (hs : ∀ i, i < n → P (i + 1) → P i) : ∀ i, i ≤ n → P i := by
  intro i hi
  obtain ⟨d, hd⟩ : ∃ d, i + d = n := ⟨n - i, by omega⟩
  induction d generalizing i with
  | zero => have e : i = n := by omega
            rw [e]; exact hn
  | succ d ih => exact hs i (by omega) (ih (i + 1) (by omega) (by omega))
