/-! PURE: a number of bytes, read in two ways -/
def nN (v : Int32) : Nat := v.toBitVec.toNat
theorem nN_toInt (v : Int32) : v.toInt = if nN v < 2147483648 then (nN v : Int) else (nN v : Int) - 4294967296 := by
  have h := BitVec.toInt_eq_toNat_cond v.toBitVec
  have h2 : v.toInt = v.toBitVec.toInt := rfl
  rw [h2, h]
  unfold nN
  by_cases e : v.toBitVec.toNat < 2147483648
  · rw [if_pos (by omega), if_pos e]
  · rw [if_neg (by omega), if_neg e]
    rfl
theorem nN_nI {b : Nat} (h : b < 4294967296) : nN (nI b) = b := by
  show (BitVec.ofNat 32 b).toNat = b
  rw [BitVec.toNat_ofNat]
  exact Nat.mod_eq_of_lt h
theorem nN_or (x y : Int32) : nN (x ||| y) = nN x ||| nN y := by
  show (x ||| y).toBitVec.toNat = _
  rw [Int32.toBitVec_or, BitVec.toNat_or]
  rfl
theorem nN_shl (x b : Int32) (k : Nat) (hb : (b.toBitVec.smod 32#32).toNat = k) : nN (x <<< b) = (nN x * 2 ^ k) % 4294967296 := by
  have e : (x <<< b).toBitVec = x.toBitVec <<< (b.toBitVec.smod 32#32).toNat := rfl
  show (x <<< b).toBitVec.toNat = _
  rw [e, hb, BitVec.toNat_shiftLeft, Nat.shiftLeft_eq]
  rfl
theorem or_low {m b k : Nat} (h : b < 2 ^ k) : (m * 2 ^ k) ||| b = m * 2 ^ k + b := by
  rw [← Nat.shiftLeft_eq, Nat.shiftLeft_add_eq_or_of_lt h]
theorem or_hi {m b k : Nat} (h : b < 2 ^ k) : b ||| (m * 2 ^ k) = b + m * 2 ^ k := by
  rw [Nat.or_comm, or_low h, Nat.add_comm]
/-- a byte behind the others, on top -/
theorem nN_up {v : Int32} {b : Nat} (hb : b < 256) : nN ((v <<< ((8 : Int32) &&& 31)) ||| nI b) = (nN v % 16777216) * 256 + b := by
  rw [nN_or, nN_shl v _ 8 (by decide +kernel), nN_nI (by omega), show nN v * 2 ^ 8 % 4294967296 = (nN v % 16777216) * 2 ^ 8 by omega, or_low (by omega)]
theorem nuv_1 {src : List Nat} {q : Nat} (h : ∀ i, src.getD i 0 < 256) : nN (nuv src q 1) = src.getD q 0 := by
  have h0 := h (q + 0)
  show nN ((0 : Int32) ||| (nI (src.getD (q + 0) 0) <<< (((8 : Int32) * nI 0) &&& 31))) = _
  rw [nN_or, nN_shl _ _ 0 (by decide +kernel), nN_nI (by omega)]
  rw [show nN 0 = 0 by decide +kernel, Nat.zero_or]
  simp only [Nat.add_zero, Nat.pow_zero, Nat.mul_one] at h0 ⊢
  omega
theorem nuv_2 {src : List Nat} {q : Nat} (h : ∀ i, src.getD i 0 < 256) : nN (nuv src q 2) = src.getD q 0 + 256 * src.getD (q + 1) 0 := by
  have h0 := h q
  have h1 := h (q + 1)
  show nN (nuv src q 1 ||| (nI (src.getD (q + 1) 0) <<< (((8 : Int32) * nI 1) &&& 31))) = _
  rw [nN_or, nuv_1 h, nN_shl _ _ 8 (by decide +kernel), nN_nI (by omega), show src.getD (q + 1) 0 * 2 ^ 8 % 4294967296 = src.getD (q + 1) 0 * 2 ^ 8 by omega, or_hi (by omega)]
  omega
theorem nuv_3 {src : List Nat} {q : Nat} (h : ∀ i, src.getD i 0 < 256) : nN (nuv src q 3) = src.getD q 0 + 256 * src.getD (q + 1) 0 + 65536 * src.getD (q + 2) 0 := by
  have h0 := h q
  have h1 := h (q + 1)
  have h2 := h (q + 2)
  show nN (nuv src q 2 ||| (nI (src.getD (q + 2) 0) <<< (((8 : Int32) * nI 2) &&& 31))) = _
  rw [nN_or, nuv_2 h, nN_shl _ _ 16 (by decide +kernel), nN_nI (by omega), show src.getD (q + 2) 0 * 2 ^ 16 % 4294967296 = src.getD (q + 2) 0 * 2 ^ 16 by omega, or_hi (by omega)]
  omega
theorem nuv_4 {src : List Nat} {q : Nat} (h : ∀ i, src.getD i 0 < 256) : nN (nuv src q 4) = src.getD q 0 + 256 * src.getD (q + 1) 0 + 65536 * src.getD (q + 2) 0 + 16777216 * src.getD (q + 3) 0 := by
  have h0 := h q
  have h1 := h (q + 1)
  have h2 := h (q + 2)
  have h3 := h (q + 3)
  show nN (nuv src q 3 ||| (nI (src.getD (q + 3) 0) <<< (((8 : Int32) * nI 3) &&& 31))) = _
  rw [nN_or, nuv_3 h, nN_shl _ _ 24 (by decide +kernel), nN_nI (by omega), show src.getD (q + 3) 0 * 2 ^ 24 % 4294967296 = src.getD (q + 3) 0 * 2 ^ 24 by omega, or_hi (by omega)]
  omega
/-- as the model reads it: from the top -/
def nmv (src : List Nat) (q : Nat) (v : Int32) (n : Nat) : Nat → Int32
  | 0 => v
  | j + 1 => (nmv src q v n j <<< ((8 : Int32) &&& 31)) ||| nI (src.getD (q + (n - 1 - j)) 0)
theorem nmv_s {src : List Nat} {q n j : Nat} {v : Int32} : nmv src q v n (j + 1) = (nmv src q v n j <<< ((8 : Int32) &&& 31)) ||| nI (src.getD (q + (n - 1 - j)) 0) := rfl
def nsg (src : List Nat) (q n : Nat) : Int32 := if src.getD (q + n - 1) 0 ≤ 127 then 0 else -1
theorem nu_nmv {src : List Nat} {q n : Nat} (h : ∀ i, src.getD i 0 < 256) (h1 : 1 ≤ n) (h4 : n ≤ 4) : nmv src q (nsg src q n) n n = nu src q n := by
  have b0 := h q
  have b1 := h (q + 1)
  have b2 := h (q + 2)
  have b3 := h (q + 3)
  have z0 : nN 0 = 0 := by decide +kernel
  have z1 : nN (-1) = 4294967295 := by decide +kernel
  apply Int32.toInt_inj.mp
  unfold nu
  obtain rfl | rfl | rfl | rfl : n = 1 ∨ n = 2 ∨ n = 3 ∨ n = 4 := by omega
  · rw [show nmv src q (nsg src q 1) 1 1 = (nsg src q 1 <<< ((8 : Int32) &&& 31)) ||| nI (src.getD (q + 0) 0) from rfl, sar_toInt _ 24 _ (by decide +kernel), nN_toInt, nN_toInt, nN_shl _ _ 24 (by decide +kernel), nuv_1 h]
    unfold nsg
    rw [show src.getD (q + 0) 0 = src.getD q 0 from rfl, show q + 1 - 1 = q by omega]
    by_cases c : src.getD q 0 ≤ 127
    · rw [if_pos c, nN_up (by omega), z0]
      split <;> split <;> omega
    · rw [if_neg c, nN_up (by omega), z1]
      split <;> split <;> omega
  · rw [show nmv src q (nsg src q 2) 2 2 = (((nsg src q 2 <<< ((8 : Int32) &&& 31)) ||| nI (src.getD (q + 1) 0)) <<< ((8 : Int32) &&& 31)) ||| nI (src.getD (q + 0) 0) from rfl, sar_toInt _ 16 _ (by decide +kernel), nN_toInt, nN_toInt, nN_shl _ _ 16 (by decide +kernel), nuv_2 h]
    unfold nsg
    rw [show src.getD (q + 0) 0 = src.getD q 0 from rfl, show q + 2 - 1 = q + 1 by omega]
    by_cases c : src.getD (q + 1) 0 ≤ 127
    · rw [if_pos c, nN_up (by omega), nN_up (by omega), z0]
      split <;> split <;> omega
    · rw [if_neg c, nN_up (by omega), nN_up (by omega), z1]
      split <;> split <;> omega
  · rw [show nmv src q (nsg src q 3) 3 3 = (((((nsg src q 3 <<< ((8 : Int32) &&& 31)) ||| nI (src.getD (q + 2) 0)) <<< ((8 : Int32) &&& 31)) ||| nI (src.getD (q + 1) 0)) <<< ((8 : Int32) &&& 31)) ||| nI (src.getD (q + 0) 0) from rfl, sar_toInt _ 8 _ (by decide +kernel), nN_toInt, nN_toInt, nN_shl _ _ 8 (by decide +kernel), nuv_3 h]
    unfold nsg
    rw [show src.getD (q + 0) 0 = src.getD q 0 from rfl, show q + 3 - 1 = q + 2 by omega]
    by_cases c : src.getD (q + 2) 0 ≤ 127
    · rw [if_pos c, nN_up (by omega), nN_up (by omega), nN_up (by omega), z0]
      split <;> split <;> omega
    · rw [if_neg c, nN_up (by omega), nN_up (by omega), nN_up (by omega), z1]
      split <;> split <;> omega
  · rw [show nmv src q (nsg src q 4) 4 4 = (((((((nsg src q 4 <<< ((8 : Int32) &&& 31)) ||| nI (src.getD (q + 3) 0)) <<< ((8 : Int32) &&& 31)) ||| nI (src.getD (q + 2) 0)) <<< ((8 : Int32) &&& 31)) ||| nI (src.getD (q + 1) 0)) <<< ((8 : Int32) &&& 31)) ||| nI (src.getD (q + 0) 0) from rfl, sar_toInt _ 0 _ (by decide +kernel), nN_toInt, nN_toInt, nN_shl _ _ 0 (by decide +kernel), nuv_4 h]
    unfold nsg
    rw [show src.getD (q + 0) 0 = src.getD q 0 from rfl, show q + 4 - 1 = q + 3 by omega]
    by_cases c : src.getD (q + 3) 0 ≤ 127
    · rw [if_pos c, nN_up (by omega), nN_up (by omega), nN_up (by omega), nN_up (by omega), z0]
      split <;> split <;> omega
    · rw [if_neg c, nN_up (by omega), nN_up (by omega), nN_up (by omega), nN_up (by omega), z1]
      split <;> split <;> omega
