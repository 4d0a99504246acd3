/-! the library's count of bits is the reference's, below 65536 -/
theorem x_ushN {s : Nat} (h : s < 2 ^ 32) (kk : Int32) (k : Nat) (hk : ((kk.toUInt32 &&& Int32.toUInt32 31).toBitVec % 32).toNat = k) : x_ush (nI s) kk = nI (s >>> k) := by
  unfold x_ush
  apply Int32.toBitVec_inj.mp
  apply BitVec.eq_of_toNat_eq
  show ((nI s).toUInt32 >>> (kk.toUInt32 &&& Int32.toUInt32 31)).toBitVec.toNat = _
  rw [UInt32.toBitVec_shiftRight]
  show ((nI s).toUInt32.toBitVec.toNat >>> ((kk.toUInt32 &&& Int32.toUInt32 31).toBitVec % 32).toNat) = _
  rw [hk]
  show (nI s).toBitVec.toNat >>> k = _
  rw [pk_tn h, pk_tn (Nat.lt_of_le_of_lt (Nat.shiftRight_le s k) h)]
theorem x_andN (a b : Nat) : nI a &&& nI b = nI (a &&& b) := by
  apply Int32.toBitVec_inj.mp
  rw [Int32.toBitVec_and]
  exact BitVec.ofNat_and.symm
def x_nbs (s : Nat) : Nat := Nat.add (Nat.add (Nat.add (Nat.add (Nat.add (Nat.add (Nat.add (Nat.add (Nat.add (Nat.add (Nat.add (Nat.add (Nat.add (Nat.add (Nat.add (Nat.add 0 (Nat.mod (Nat.shiftRight s 0) 2)) (Nat.mod (Nat.shiftRight s 1) 2)) (Nat.mod (Nat.shiftRight s 2) 2)) (Nat.mod (Nat.shiftRight s 3) 2)) (Nat.mod (Nat.shiftRight s 4) 2)) (Nat.mod (Nat.shiftRight s 5) 2)) (Nat.mod (Nat.shiftRight s 6) 2)) (Nat.mod (Nat.shiftRight s 7) 2)) (Nat.mod (Nat.shiftRight s 8) 2)) (Nat.mod (Nat.shiftRight s 9) 2)) (Nat.mod (Nat.shiftRight s 10) 2)) (Nat.mod (Nat.shiftRight s 11) 2)) (Nat.mod (Nat.shiftRight s 12) 2)) (Nat.mod (Nat.shiftRight s 13) 2)) (Nat.mod (Nat.shiftRight s 14) 2)) (Nat.mod (Nat.shiftRight s 15) 2)
def x_nbr (s : Nat) : Nat → Nat
  | 0 => 0
  | n + 1 => Nat.add (x_nbr s n) (Nat.mod (Nat.shiftRight s n) 2)
def x_nbc1 (s : Nat) : Nat := Nat.sub s (Nat.land (Nat.shiftRight s 1) 1431655765)
def x_nbc2 (a : Nat) : Nat := Nat.add (Nat.land a 858993459) (Nat.land (Nat.shiftRight a 2) 858993459)
def x_nbc3 (b : Nat) : Nat := Nat.land (Nat.add b (Nat.shiftRight b 4)) 252645135
def x_nbc4 (c : Nat) : Nat := Nat.add c (Nat.shiftRight c 8)
def x_nbc (s : Nat) : Nat := Nat.land (Nat.add (x_nbc4 (x_nbc3 (x_nbc2 (x_nbc1 s)))) (Nat.shiftRight (x_nbc4 (x_nbc3 (x_nbc2 (x_nbc1 s)))) 16)) 63
def x_nchk : Nat → Nat → Bool
  | 0, _ => true
  | n + 1, s => if Nat.beq (x_nbc s) (x_nbs s) = true then x_nchk n (s + 1) else false
theorem x_nchk_ok : ∀ (n s j : Nat), x_nchk n s = true → j < n → x_nbc (s + j) = x_nbs (s + j)
  | 0, _, _, _, h => by omega
  | n + 1, s, j, h, hj => by
    unfold x_nchk at h
    by_cases c : Nat.beq (x_nbc s) (x_nbs s) = true
    · rw [if_pos c] at h
      rcases Nat.eq_zero_or_pos j with rfl | h0
      · exact Nat.eq_of_beq_eq_true c
      · have := x_nchk_ok n (s + 1) (j - 1) h (by omega)
        rwa [show s + 1 + (j - 1) = s + j by omega] at this
    · rw [if_neg c] at h
      cases h
theorem x_nb0 : x_nchk 2048 0 = true := by decide +kernel
theorem x_nb1 : x_nchk 2048 2048 = true := by decide +kernel
theorem x_nb2 : x_nchk 2048 4096 = true := by decide +kernel
theorem x_nb3 : x_nchk 2048 6144 = true := by decide +kernel
theorem x_nb4 : x_nchk 2048 8192 = true := by decide +kernel
theorem x_nb5 : x_nchk 2048 10240 = true := by decide +kernel
theorem x_nb6 : x_nchk 2048 12288 = true := by decide +kernel
theorem x_nb7 : x_nchk 2048 14336 = true := by decide +kernel
theorem x_nb8 : x_nchk 2048 16384 = true := by decide +kernel
theorem x_nb9 : x_nchk 2048 18432 = true := by decide +kernel
theorem x_nb10 : x_nchk 2048 20480 = true := by decide +kernel
theorem x_nb11 : x_nchk 2048 22528 = true := by decide +kernel
theorem x_nb12 : x_nchk 2048 24576 = true := by decide +kernel
theorem x_nb13 : x_nchk 2048 26624 = true := by decide +kernel
theorem x_nb14 : x_nchk 2048 28672 = true := by decide +kernel
theorem x_nb15 : x_nchk 2048 30720 = true := by decide +kernel
theorem x_nb16 : x_nchk 2048 32768 = true := by decide +kernel
theorem x_nb17 : x_nchk 2048 34816 = true := by decide +kernel
theorem x_nb18 : x_nchk 2048 36864 = true := by decide +kernel
theorem x_nb19 : x_nchk 2048 38912 = true := by decide +kernel
theorem x_nb20 : x_nchk 2048 40960 = true := by decide +kernel
theorem x_nb21 : x_nchk 2048 43008 = true := by decide +kernel
theorem x_nb22 : x_nchk 2048 45056 = true := by decide +kernel
theorem x_nb23 : x_nchk 2048 47104 = true := by decide +kernel
theorem x_nb24 : x_nchk 2048 49152 = true := by decide +kernel
theorem x_nb25 : x_nchk 2048 51200 = true := by decide +kernel
theorem x_nb26 : x_nchk 2048 53248 = true := by decide +kernel
theorem x_nb27 : x_nchk 2048 55296 = true := by decide +kernel
theorem x_nb28 : x_nchk 2048 57344 = true := by decide +kernel
theorem x_nb29 : x_nchk 2048 59392 = true := by decide +kernel
theorem x_nb30 : x_nchk 2048 61440 = true := by decide +kernel
theorem x_nb31 : x_nchk 2048 63488 = true := by decide +kernel
theorem x_nball {s : Nat} (h : s < 65536) : x_nbc s = x_nbs s := by
  have hs : s = 2048 * (s / 2048) + s % 2048 := (Nat.div_add_mod s 2048).symm
  have hd : s / 2048 < 32 := by omega
  have hm : s % 2048 < 2048 := by omega
  rw [hs]
  generalize s % 2048 = j at hm
  generalize s / 2048 = d at hd
  obtain (rfl | rfl | rfl | rfl | rfl | rfl | rfl | rfl | rfl | rfl | rfl | rfl | rfl | rfl | rfl | rfl | rfl | rfl | rfl | rfl | rfl | rfl | rfl | rfl | rfl | rfl | rfl | rfl | rfl | rfl | rfl | rfl) : d = 0 ∨ d = 1 ∨ d = 2 ∨ d = 3 ∨ d = 4 ∨ d = 5 ∨ d = 6 ∨ d = 7 ∨ d = 8 ∨ d = 9 ∨ d = 10 ∨ d = 11 ∨ d = 12 ∨ d = 13 ∨ d = 14 ∨ d = 15 ∨ d = 16 ∨ d = 17 ∨ d = 18 ∨ d = 19 ∨ d = 20 ∨ d = 21 ∨ d = 22 ∨ d = 23 ∨ d = 24 ∨ d = 25 ∨ d = 26 ∨ d = 27 ∨ d = 28 ∨ d = 29 ∨ d = 30 ∨ d = 31 := by omega
  · exact x_nchk_ok 2048 0 j x_nb0 hm
  · exact x_nchk_ok 2048 2048 j x_nb1 hm
  · exact x_nchk_ok 2048 4096 j x_nb2 hm
  · exact x_nchk_ok 2048 6144 j x_nb3 hm
  · exact x_nchk_ok 2048 8192 j x_nb4 hm
  · exact x_nchk_ok 2048 10240 j x_nb5 hm
  · exact x_nchk_ok 2048 12288 j x_nb6 hm
  · exact x_nchk_ok 2048 14336 j x_nb7 hm
  · exact x_nchk_ok 2048 16384 j x_nb8 hm
  · exact x_nchk_ok 2048 18432 j x_nb9 hm
  · exact x_nchk_ok 2048 20480 j x_nb10 hm
  · exact x_nchk_ok 2048 22528 j x_nb11 hm
  · exact x_nchk_ok 2048 24576 j x_nb12 hm
  · exact x_nchk_ok 2048 26624 j x_nb13 hm
  · exact x_nchk_ok 2048 28672 j x_nb14 hm
  · exact x_nchk_ok 2048 30720 j x_nb15 hm
  · exact x_nchk_ok 2048 32768 j x_nb16 hm
  · exact x_nchk_ok 2048 34816 j x_nb17 hm
  · exact x_nchk_ok 2048 36864 j x_nb18 hm
  · exact x_nchk_ok 2048 38912 j x_nb19 hm
  · exact x_nchk_ok 2048 40960 j x_nb20 hm
  · exact x_nchk_ok 2048 43008 j x_nb21 hm
  · exact x_nchk_ok 2048 45056 j x_nb22 hm
  · exact x_nchk_ok 2048 47104 j x_nb23 hm
  · exact x_nchk_ok 2048 49152 j x_nb24 hm
  · exact x_nchk_ok 2048 51200 j x_nb25 hm
  · exact x_nchk_ok 2048 53248 j x_nb26 hm
  · exact x_nchk_ok 2048 55296 j x_nb27 hm
  · exact x_nchk_ok 2048 57344 j x_nb28 hm
  · exact x_nchk_ok 2048 59392 j x_nb29 hm
  · exact x_nchk_ok 2048 61440 j x_nb30 hm
  · exact x_nchk_ok 2048 63488 j x_nb31 hm
theorem x_bcN {s : Nat} (h : s < 65536) : x_bc (nI s) = nI (x_nbc s) := by
  have a0 := Nat.shiftRight_le s 1
  have a1 : (s >>> 1) &&& 1431655765 ≤ s >>> 1 := Nat.and_le_left
  have e1 : x_b1 (nI s) = nI (x_nbc1 s) := by
    unfold x_b1
    rw [x_ushN (by omega) 1 1 rfl, show (1431655765 : Int32) = nI 1431655765 from rfl, x_andN, pk_sub (by omega)]
    rfl
  have b1 : x_nbc1 s < 65536 := Nat.lt_of_le_of_lt (Nat.sub_le _ _) h
  have e2 : x_b2 (nI (x_nbc1 s)) = nI (x_nbc2 (x_nbc1 s)) := by
    unfold x_b2
    rw [x_ushN (by omega) 2 2 rfl, show (858993459 : Int32) = nI 858993459 from rfl, x_andN, x_andN, nI_add]
    rfl
  have b2 : x_nbc2 (x_nbc1 s) < 131072 := by
    have := Nat.shiftRight_le (x_nbc1 s) 2
    have := @Nat.and_le_left (x_nbc1 s) 858993459
    have := @Nat.and_le_left (x_nbc1 s >>> 2) 858993459
    show (x_nbc1 s &&& 858993459) + (x_nbc1 s >>> 2 &&& 858993459) < _
    omega
  have e3 : x_b3 (nI (x_nbc2 (x_nbc1 s))) = nI (x_nbc3 (x_nbc2 (x_nbc1 s))) := by
    unfold x_b3
    rw [x_ushN (by omega) 4 4 rfl, nI_add, show (252645135 : Int32) = nI 252645135 from rfl, x_andN]
    rfl
  have b3 : x_nbc3 (x_nbc2 (x_nbc1 s)) < 262144 := by
    have := Nat.shiftRight_le (x_nbc2 (x_nbc1 s)) 4
    have := @Nat.and_le_left (x_nbc2 (x_nbc1 s) + x_nbc2 (x_nbc1 s) >>> 4) 252645135
    show (x_nbc2 (x_nbc1 s) + x_nbc2 (x_nbc1 s) >>> 4) &&& 252645135 < _
    omega
  have e4 : x_b4 (nI (x_nbc3 (x_nbc2 (x_nbc1 s)))) = nI (x_nbc4 (x_nbc3 (x_nbc2 (x_nbc1 s)))) := by
    unfold x_b4
    rw [x_ushN (by omega) 8 8 rfl, nI_add]
    rfl
  have b4 : x_nbc4 (x_nbc3 (x_nbc2 (x_nbc1 s))) < 524288 := by
    have := Nat.shiftRight_le (x_nbc3 (x_nbc2 (x_nbc1 s))) 8
    show x_nbc3 (x_nbc2 (x_nbc1 s)) + x_nbc3 (x_nbc2 (x_nbc1 s)) >>> 8 < _
    omega
  unfold x_bc
  rw [e1, e2, e3, e4]
  unfold x_b5
  rw [x_ushN (by omega) 16 16 rfl, nI_add, show (63 : Int32) = nI 63 from rfl, x_andN]
  rfl
theorem x_bitsN {s : Nat} (h : s < 65536) : x_bits (nI s) = nI (x_nbs s) := by
  have : ∀ n, n ≤ 16 → x_sum (fun k => (nI s >>> (nI k &&& 31)) &&& 1) n = nI (x_nbr s n) := by
    intro n
    induction n with
    | zero => exact fun _ => rfl
    | succ n ih =>
      intro hn
      rw [x_sum_s, ih (by omega), pk_shrN (by omega) _ n (x_sh n (by omega)), pk_andN (Nat.lt_of_le_of_lt (Nat.div_le_self _ _) (by omega)) 1 (by decide), nI_add]
      show _ = nI (x_nbr s n + (s >>> n) % 2)
      rw [Nat.shiftRight_eq_div_pow]
  exact this 16 (by decide)
theorem x_bcb {s : Nat} (h : s < 65536) : x_bc (nI s) = x_bits (nI s) := by
  rw [x_bcN h, x_nball h, x_bitsN h]
