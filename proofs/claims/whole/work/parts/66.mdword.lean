/-! Words of bytes, as numbers: what gather reads. -/
abbrev byt (l : List Int32) : Prop := ∀ b, b ∈ l → ∃ k : Nat, k < 256 ∧ b = nI k
theorem nI_or (x y : Nat) : nI x ||| nI y = nI (x ||| y) := Int32.toBitVec_inj.mp (by
  rw [Int32.toBitVec_or]
  show BitVec.ofNat 32 x ||| BitVec.ofNat 32 y = BitVec.ofNat 32 (x ||| y)
  apply BitVec.eq_of_getLsbD_eq
  intro i hi
  rw [BitVec.getLsbD_or, BitVec.getLsbD_ofNat, BitVec.getLsbD_ofNat, BitVec.getLsbD_ofNat, Nat.testBit_or]
  simp [hi])
theorem word4 {a b c d : Nat} (ha : a < 256) (hb : b < 256) (hc : c < 256) (hd : d < 256) : ((nI a <<< ((24 : Int32) &&& 31) ||| nI b <<< ((16 : Int32) &&& 31)) ||| nI c <<< ((8 : Int32) &&& 31)) ||| nI d = nI (a * 2 ^ 24 + b * 2 ^ 16 + c * 2 ^ 8 + d) := by
  rw [pk_shlN _ 24 (by decide) (by omega), pk_shlN _ 16 (by decide) (by omega), pk_shlN _ 8 (by decide) (by omega), nI_or, nI_or, nI_or]
  have h1 := Nat.two_pow_add_eq_or_of_lt (i := 24) (b := b * 2 ^ 16) (by omega) a
  have h2 := Nat.two_pow_add_eq_or_of_lt (i := 16) (b := c * 2 ^ 8) (by omega) (a * 2 ^ 8 + b)
  have h3 := Nat.two_pow_add_eq_or_of_lt (i := 8) (b := d) (by omega) (a * 2 ^ 16 + b * 2 ^ 8 + c)
  congr 1
  rw [show a * 2 ^ 24 = 2 ^ 24 * a by omega, ← h1, show 2 ^ 24 * a + b * 2 ^ 16 = 2 ^ 16 * (a * 2 ^ 8 + b) by omega, ← h2, show 2 ^ 16 * (a * 2 ^ 8 + b) + c * 2 ^ 8 = 2 ^ 8 * (a * 2 ^ 16 + b * 2 ^ 8 + c) by omega, ← h3]
theorem word4_neg {N : Nat} (h : N < 2 ^ 32) : nI N < 0 ↔ 2 ^ 31 ≤ N := by
  rw [Int32.lt_iff_toInt_lt]
  have h1 := BitVec.toInt_eq_toNat_cond (nI N).toBitVec
  rw [pk_tn h] at h1
  rw [show (nI N).toInt = (nI N).toBitVec.toInt from rfl, h1, show (0 : Int32).toInt = 0 from rfl]
  split <;> omega
theorem word4_fcn {a b c d : Nat} (ha : a < 256) (hb : b < 256) (hc : c < 256) (hd : d < 256) : (((nI a &&& 127) * 256 + nI b) * 65536 + nI c * 256) + nI d = nI (fcn (nI (a * 2 ^ 24 + b * 2 ^ 16 + c * 2 ^ 8 + d))) := by
  rw [pk_andN (by omega) 7 (by decide)]
  unfold fcn
  rw [pk_tn (by omega), show nI (a % 2 ^ 7) * 256 = nI (a % 2 ^ 7 * 256) from pk_mul _ 256, nI_add, show nI (a % 2 ^ 7 * 256 + b) * 65536 = nI ((a % 2 ^ 7 * 256 + b) * 65536) from pk_mul _ 65536, show nI c * 256 = nI (c * 256) from pk_mul _ 256, nI_add, nI_add]
  congr 1
  omega
