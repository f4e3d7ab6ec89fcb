/-! ===== The two checksums are one ===== -/
theorem ush1n (x : Int32) : (ush x 1).toBitVec.toNat = x.toBitVec.toNat / 2 := by
  show (x.toBitVec >>> (1 : Nat)).toNat = _
  rw [BitVec.toNat_ushiftRight, Nat.shiftRight_eq_div_pow]
theorem ush4n (x : Int32) : (ush x 4).toBitVec.toNat = x.toBitVec.toNat / 16 := by
  show (x.toBitVec >>> (4 : Nat)).toNat = _
  rw [BitVec.toNat_ushiftRight, Nat.shiftRight_eq_div_pow]
theorem bsC_e {x : Int32} (h : x.toBitVec.toNat % 2 = 0) : bsC x = ush x 1 := by
  have e : x &&& 1 = nI (x.toBitVec.toNat % 2 ^ 1) := pk_and x 1 (by decide)
  unfold bsC
  rw [if_neg]
  rw [e, show x.toBitVec.toNat % 2 ^ 1 = 0 from h]
  decide
theorem bs4_e {x : Int32} (h : x.toBitVec.toNat % 16 = 0) : bsN 4 x = ush x 4 := by
  have h1 := bsC_e (x := x) (by omega)
  have h2 := bsC_e (x := ush x 1) (by rw [ush1n]; omega)
  have h3 := bsC_e (x := ush (ush x 1) 1) (by rw [ush1n, ush1n]; omega)
  have h4 := bsC_e (x := ush (ush (ush x 1) 1) 1) (by rw [ush1n, ush1n, ush1n]; omega)
  show bsC (bsC (bsC (bsC x))) = _
  rw [h1, h2, h3, h4]
  apply Int32.toBitVec_inj.1
  apply BitVec.eq_of_toNat_eq
  rw [ush1n, ush1n, ush1n, ush1n, ush4n]
  omega
theorem tab4 : ∀ k, k < 16 → bsN 4 (nI k) = mRem k := by decide +kernel
theorem nib (c : Int32) : bsN 4 c = ush c 4 ^^^ mRem (c &&& 15).toNatClampNeg := by
  have e : c &&& 15 = nI (c.toBitVec.toNat % 2 ^ 4) := pk_and c 4 (by decide)
  have hl : c.toBitVec.toNat % 2 ^ 4 < 16 := Nat.mod_lt _ (by decide)
  have hc : c = (c ^^^ (c &&& 15)) ^^^ (c &&& 15) := by rw [Int32.xor_assoc, Int32.xor_self, Int32.xor_zero]
  have hn : (c ^^^ (c &&& 15)).toBitVec.toNat = c.toBitVec.toNat ^^^ (c.toBitVec.toNat % 2 ^ 4) := by
    rw [Int32.toBitVec_xor, BitVec.toNat_xor, Int32.toBitVec_and, BitVec.toNat_and]
    congr 1
    exact Nat.and_two_pow_sub_one_eq_mod _ 4
  have hm : (c ^^^ (c &&& 15)).toBitVec.toNat % 16 = 0 := by
    rw [hn, show (16 : Nat) = 2 ^ 4 from rfl, Nat.xor_mod_two_pow, Nat.mod_mod, Nat.xor_self]
  have hd : (c ^^^ (c &&& 15)).toBitVec.toNat / 16 = c.toBitVec.toNat / 16 := by
    rw [hn, show (16 : Nat) = 2 ^ 4 from rfl, Nat.xor_div_two_pow, Nat.div_eq_of_lt (show c.toBitVec.toNat % 2 ^ 4 < 2 ^ 4 from hl), Nat.xor_zero]
  have hu : ush (c ^^^ (c &&& 15)) 4 = ush c 4 := by
    apply Int32.toBitVec_inj.1
    apply BitVec.eq_of_toNat_eq
    rw [ush4n, ush4n, hd]
  have h1 : bsN 4 c = bsN 4 (c ^^^ (c &&& 15)) ^^^ bsN 4 (c &&& 15) := by rw [← bsN_x, ← hc]
  rw [h1, bs4_e hm, hu, e, tab4 _ hl, nI_clamp (by omega)]
theorem bsN_add : ∀ (a b : Nat) (c : Int32), bsN (a + b) c = bsN a (bsN b c)
  | 0, b, c => by rw [Nat.zero_add]; rfl
  | a + 1, b, c => by rw [Nat.add_right_comm, bsN, bsN_add a b c]; rfl
theorem byt (c x : Int32) : bsN 8 (c ^^^ x) = crcStep c x := by
  rw [show 8 = 4 + 4 from rfl, bsN_add, nib, nib (c ^^^ x)]
  rfl
theorem crB_N (B : List Nat) (hl : B.length < 2147483648) : ∀ n, n ≤ B.length → crB B n = crcN B n
  | 0, _ => rfl
  | n + 1, h => by
    rw [crB, crcN, byt, crB_N B hl n (by omega)]
    congr 1
    unfold bAt
    rw [if_neg (nI_pos (show n < 2147483648 by omega)), nI_clamp (by omega)]
theorem crB_of (B : List Nat) (hl : B.length < 2147483648) : crB B B.length ^^^ -1 = crcOf B := by
  rw [crcOf, crB_N B hl _ (Nat.le_refl _)]
