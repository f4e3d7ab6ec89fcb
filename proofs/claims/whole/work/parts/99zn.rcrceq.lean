/-! ===== Towards: the two checksums are one (bsC is linear) ===== -/
theorem ush_x (a b : Int32) : ush (a ^^^ b) 1 = ush a 1 ^^^ ush b 1 := by
  apply Int32.toBitVec_inj.1
  rw [Int32.toBitVec_xor]
  show ((a ^^^ b).toBitVec >>> (1 : Nat)) = (a.toBitVec >>> (1 : Nat)) ^^^ (b.toBitVec >>> (1 : Nat))
  rw [Int32.toBitVec_xor]
  exact BitVec.ushiftRight_xor_distrib _ _ _
theorem and1 (a : Int32) : a &&& 1 = 0 ∨ a &&& 1 = 1 := by
  have h : a &&& 1 = nI (a.toBitVec.toNat % 2 ^ 1) := pk_and a 1 (by decide)
  have h2 : a.toBitVec.toNat % 2 ^ 1 = 0 ∨ a.toBitVec.toNat % 2 ^ 1 = 1 := by omega
  rcases h2 with q | q
  · left; rw [h, q]; rfl
  · right; rw [h, q]; rfl
theorem and1_x (a b : Int32) : (a ^^^ b) &&& 1 = (a &&& 1) ^^^ (b &&& 1) := by
  apply Int32.toBitVec_inj.1
  rw [Int32.toBitVec_and, Int32.toBitVec_xor, Int32.toBitVec_xor, Int32.toBitVec_and, Int32.toBitVec_and]
  ext i hi
  rw [BitVec.getElem_and, BitVec.getElem_xor, BitVec.getElem_xor, BitVec.getElem_and, BitVec.getElem_and, Bool.and_xor_distrib_right]
theorem bsC_x (a b : Int32) : bsC (a ^^^ b) = bsC a ^^^ bsC b := by
  unfold bsC
  rw [and1_x, ush_x]
  generalize ush a 1 = x
  generalize ush b 1 = z
  generalize (-306674912 : Int32) = kc
  rcases and1 a with p | p <;> rcases and1 b with q | q <;> rw [p, q]
  · rw [if_neg (by decide), if_neg (by decide), if_neg (by decide)]
  · rw [if_pos (by decide), if_neg (by decide), if_pos rfl, Int32.xor_assoc]
  · rw [if_pos (by decide), if_pos rfl, if_neg (by decide), Int32.xor_assoc, Int32.xor_assoc, Int32.xor_comm z kc]
  · rw [if_neg (by decide), if_pos rfl, Int32.xor_assoc x kc, if_pos rfl, Int32.xor_comm z kc, ← Int32.xor_assoc kc kc, Int32.xor_self, Int32.zero_xor]
theorem bsN_x : ∀ (k : Nat) (a b : Int32), bsN k (a ^^^ b) = bsN k a ^^^ bsN k b
  | 0, _, _ => rfl
  | k + 1, a, b => by rw [bsN, bsN, bsN, bsN_x k, bsC_x]
