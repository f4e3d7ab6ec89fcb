/-! ===== The reference's Out: number, column ===== -/
/-- the bytes of a varint -/
def vbN : Nat → Nat → List Nat
  | 0, _ => []
  | k + 1, n => if n ≤ 127 then [n] else (n % 128 + 128) :: vbN k (n / 128)
theorem lB_nat {n : Nat} (h : n < 2 ^ 63) : (lN n).toBitVec.toNat = n := by
  show (BitVec.ofNat 64 n).toNat = n
  rw [BitVec.toNat_ofNat]; exact Nat.mod_eq_of_lt (by omega)
theorem lB_7 {m : Nat} (h : m < 2 ^ 63) : lN m >>> ((7 : Int32).toInt64 &&& 63) = lN (m / 128) := by
  rw [show ((7 : Int32).toInt64 &&& 63) = 7 from by decide]
  apply Int64.toBitVec_inj.1
  rw [Int64.toBitVec_shiftRight, show ((7 : Int64).toBitVec.smod 64) = 7#64 from by decide]
  apply BitVec.eq_of_toNat_eq
  have hb : (lN m).toBitVec.msb = false := by
    rw [BitVec.msb_eq_decide, lB_nat h]
    exact decide_eq_false (by omega)
  rw [BitVec.sshiftRight', BitVec.sshiftRight_eq_of_msb_false hb, BitVec.toNat_ushiftRight, lB_nat h, lB_nat (by omega)]
  exact Nat.shiftRight_eq_div_pow m 7
theorem b8_l {m : Nat} (h : m < 2 ^ 63) : b8 (lN m &&& 127 ||| 128).toInt32 = m % 128 + 128 := by
  unfold b8
  rw [Int64.toBitVec_toInt32, BitVec.signExtend_eq_setWidth_of_le _ (by decide), BitVec.toNat_setWidth, Int64.toBitVec_or, Int64.toBitVec_and, BitVec.toNat_or, BitVec.toNat_and, lB_nat h]
  show (m &&& 127 ||| 128) % 2 ^ 32 % 256 = _
  have e1 : m &&& 127 = m % 128 := Nat.and_two_pow_sub_one_eq_mod m 7
  have h1 : m % 128 < 2 ^ 7 := Nat.mod_lt _ (by decide)
  have e2 : m % 128 ||| 128 = m % 128 + 128 := by
    have := Nat.two_pow_add_eq_or_of_lt h1 1
    rw [Nat.or_comm]
    show 2 ^ 7 * 1 ||| m % 128 = _
    rw [← this]
    omega
  rw [e1, e2]
  omega
theorem vbN_len : ∀ k n, (vbN k n).length ≤ k
  | 0, _ => Nat.le_refl _
  | k + 1, n => by
    rw [vbN]
    split
    · exact Nat.succ_le_succ (Nat.zero_le k)
    · exact Nat.succ_le_succ (vbN_len k (n / 128))
theorem vbN_pos (k n : Nat) : 0 < (vbN (k + 1) n).length := by
  rw [vbN]
  split <;> exact Nat.succ_pos _
def I_onu (o cb : Nat) (B V : List Nat) (S : MM) (k : Nat) : KT := fun lo st S1 cs sl => ∃ L m, L ++ vbN (k + 1) m = V ∧ m < 2 ^ (7 * (k + 1)) ∧ k ≤ 4 ∧ Ou S1 o cb (B ++ L) ∧ Keep (fun b => b = o ∨ b = cb) S S1 ∧ lo = [(0, .inr (.inr (some o))), (3, .inr (.inl (lN m)))] ∧ st = [] ∧ cs = 0 ∧ sl = 0
def T_onu : TR := fun Rc Rs av S cs sl K _Kx => match av with
  | [.inr (.inr o_o), .inr (.inl v)] => pa o_o fun o => (∃ (cb : Nat) (B : List Nat) (n : Nat), (Ou S o cb B ∧ v = lN n ∧ n < 2 ^ 35 ∧ B.length + 5 ≤ 1000000) ∧ cs ≤ Rc ∧ sl ≤ Rs ∧ (∀ (S' : MM), (ouP S S' o cb (B ++ vbN 5 n)) → K none S' cs sl))
  | _ => False
def sp_onu (o : Nat) (v : Int64) (cb : Nat) (B : List Nat) (n : Nat) : Sp := (fun av S => av = [.inr (.inr (some o)), .inr (.inl v)] ∧ (Ou S o cb B ∧ v = lN n ∧ n < 2 ^ 35 ∧ B.length + 5 ≤ 1000000), fun _ S => 0, fun _ S => 0, fun _ S rv S' => rv = none ∧ (ouP S S' o cb (B ++ vbN 5 n)), fun _ _ _ _ => False)
def tX13_number : CD := [(0, .lload_n 1), (1, .lstore_n 3), (2, .lload_n 3), (3, .ldc2_w 20), (6, .lcmp), (7, .ifCond .le 25), (10, .aload_n 0), (11, .lload_n 3), (12, .ldc2_w 20), (15, .land), (16, .ldc2_w 22), (19, .lor), (20, .l2i), (21, .invokevirtual 24), (24, .lload_n 3), (25, .bipush 7), (27, .lshr), (28, .lstore_n 3), (29, .goto (-27)), (32, .aload_n 0), (33, .lload_n 3), (34, .l2i), (35, .invokevirtual 24), (38, .return_)]
set_option maxRecDepth 100000 in
theorem kX13_number : chk cX13_number tX13_number = true := by decide +kernel
theorem vX13_number_24 : ∀ w ∈ ([.methodLink RX13 24 yX13_one, .instanceMethod yX13_one, .selects yX13_one.cls yX13_one yX13_one, .initialized yX13_one.cls, .code yX13_one cX13_one 2 none] : List Cond), w ∈ lw_good := List.forall_mem_cons.mpr ⟨mgd 2260 (by decide +kernel) (by decide +kernel), List.forall_mem_cons.mpr ⟨mgd 2251 (by decide +kernel) (by decide +kernel), List.forall_mem_cons.mpr ⟨mgd 2252 (by decide +kernel) (by decide +kernel), List.forall_mem_cons.mpr ⟨mgd 137 (by decide +kernel) (by decide +kernel), List.forall_mem_cons.mpr ⟨mgd 2253 (by decide +kernel) (by decide +kernel), fun _ h => absurd h List.not_mem_nil⟩⟩⟩⟩⟩
set_option maxRecDepth 100000 in
set_option maxHeartbeats 2000000 in
theorem c_onu (l : Launch) : ∀ (o : Nat) (v : Int64) (cb : Nat) (B : List Nat) (n : Nat), Ct l yX13_number cX13_number 5 none 1 21 (sp_onu o v cb B n) := by
  intro o v cb B n
  refine Ct.of (fX13, nX13, aX13, iX13, lX13, [(24, 0, 2, 0, T_oon)], qX13, gX13, []) false tX13_number (fun _ S => look [(2, ([0,3], I_onu o cb B (vbN 5 n) S))]) (by decide) (by decide) kX13_number ⟨_, _, rfl⟩ fX13_ok nX13_ok aX13_ok iX13_ok lX13_ok (fun p e R s m args below meth c Q D cy z r A C hR1 hR2 => List.forall_mem_cons.mpr ⟨cOK_use (fun _ _ _ _ _ _ _ _ h => let ⟨sp, h1, h2, h3⟩ := u_oon l _ _ _ _ _ _ _ _ h; ⟨sp, cOK_V C h1 vX13_number_24 ⟨by decide, by decide, by decide +kernel⟩ ⟨by rw [hR1]; decide, by rw [hR2]; decide⟩ (k := 14) (T := TX13) (N := 2) rfl (by decide) h2, h3⟩), fun _ h => absurd h List.not_mem_nil⟩) qX13_ok gX13_ok rfl ?_ ?_
  · rintro _ S ⟨rfl, hp⟩
    refine ⟨Nat.le_of_ble_eq_true rfl, 300, ?_⟩
    show (∃ k1, I_onu o cb B (vbN 5 n) S k1 [(0, .inr (.inr (some o))), (3, .inr (.inl v))] [] S 0 0)
    obtain ⟨h1, rfl, h3, h4⟩ := hp
    exact ⟨4, [], n, rfl, h3, Nat.le_refl _, by rw [List.append_nil]; exact h1, Keep.rf, rfl, rfl, rfl, rfl⟩
  · intro av S hpre pc I hI k lo st S1 cs sl h
    obtain ⟨rfl, hp⟩ := hpre
    have hm := look_in hI
    rw [List.mem_singleton] at hm
    cases hm
    obtain ⟨L, m, hL, hm, hk4, hO, hK, rfl, rfl, rfl, rfl⟩ := h
    refine ⟨300, ?_⟩
    show (((lg_cmp (lN m) (127 : Int64)) ≤ 0 → (0 = 0 ∧ (∃ (cb_1 : Nat) (B_2 : List Nat), (Ou S1 o cb_1 B_2 ∧ B_2.length < 1000000) ∧ 0 ≤ 0 ∧ 0 ≤ 0 ∧ (∀ (S_3 : MM), (ouP S1 S_3 o cb_1 (B_2 ++ [b8 ((lN m).toInt32)])) → (([] : List MV) = [] ∧ mret none (sp_onu o v cb B n) [.inr (.inr (some o)), .inr (.inl v)] S none S_3 0 0))))) ∧ (¬ (lg_cmp (lN m) (127 : Int64)) ≤ 0 → (0 = 0 ∧ (∃ (cb_4 : Nat) (B_5 : List Nat), (Ou S1 o cb_4 B_5 ∧ B_5.length < 1000000) ∧ 0 ≤ 0 ∧ 0 ≤ 0 ∧ (∀ (S_6 : MM), (ouP S1 S_6 o cb_4 (B_5 ++ [b8 ((((lN m) &&& (127 : Int64)) ||| (128 : Int64)).toInt32)])) → (∃ k1, k1 < k ∧ I_onu o cb B (vbN 5 n) S k1 [(0, .inr (.inr (some o))), (3, .inr (.inl ((lN m) >>> ((7 : Int32).toInt64 &&& 63))))] [] S_6 0 0))))))
    obtain ⟨h1, rfl, h3, h4⟩ := hp
    have p1 : (2 : Nat) ^ (7 * (k + 1)) ≤ 2 ^ 35 := Nat.pow_le_pow_right (by decide) (by omega)
    have p2 := vbN_len 5 n
    have p3 := vbN_pos k m
    rw [← hL, List.length_append] at p2
    have ln : (B ++ L).length < 1000000 := by rw [List.length_append]; omega
    have hc := lgc (a := m) (b := 127) (by omega) (by decide)
    have hle : lg_cmp (lN m) 127 ≤ 0 ↔ m ≤ 127 := by
      rw [← Int32.not_lt, show (127 : Int64) = lN 127 from rfl, hc.1]; omega
    refine ⟨fun q => ⟨rfl, cb, _, ⟨hO, ln⟩, Nat.le_refl _, Nat.le_refl _, fun S3 hq => ⟨rfl, trivial, ⟨rfl, ?_, hK.tr hq.2⟩, Nat.le_refl _, Nat.le_refl _⟩⟩, fun q => ⟨rfl, cb, _, ⟨hO, ln⟩, Nat.le_refl _, Nat.le_refl _, fun S3 hq => ?_⟩⟩
    · rw [hle] at q
      have := hq.1
      rw [lN_32 (by omega), b8_nI (by omega), List.append_assoc] at this
      rw [← hL, vbN, if_pos q]
      exact this
    · rw [hle] at q
      have hk1 : k ≠ 0 := fun z => by subst z; simp at hm; omega
      obtain ⟨k', rfl⟩ : ∃ k', k = k' + 1 := ⟨k - 1, by omega⟩
      refine ⟨k', Nat.lt_succ_self _, L ++ [m % 128 + 128], m / 128, ?_, ?_, by omega, ?_, hK.tr hq.2, by rw [lB_7 (by omega)], rfl, rfl, rfl⟩
      · rw [← hL, List.append_assoc, vbN.eq_def (k' + 1 + 1) m]
        show L ++ ([m % 128 + 128] ++ vbN (k' + 1) (m / 128)) = L ++ (if m ≤ 127 then [m] else (m % 128 + 128) :: vbN (k' + 1) (m / 128))
        rw [if_neg q]; rfl
      · rw [show 7 * (k' + 1 + 1) = 7 * (k' + 1) + 7 by omega, Nat.pow_add] at hm
        exact Nat.div_lt_of_lt_mul (by rw [Nat.mul_comm]; exact hm)
      · have := hq.1
        rw [b8_l (by omega), List.append_assoc] at this
        exact this
theorem u_onu (l : Launch) : Us l yX13_number cX13_number 5 none 1 21 14 T_onu := by
  intro Rc Rs av S cs sl K Kx h
  unfold T_onu at h
  split at h
  · rename_i o_o v
    obtain ⟨o, rfl, h_1⟩ := pa_of h
    obtain ⟨cb, B, n, hp, hc, hs, hk⟩ := h_1
    refine ⟨(sp_onu o v cb B n), c_onu l o v cb B n, fun _ _ h9 => ⟨_, _, h9.1, h9.2.1.1⟩, ⟨rfl, hp⟩, hc, hs, fun S' h8 => by
      obtain ⟨-, h8⟩ := h8
      exact hk _ h8, fun _ _ q => q.elim⟩
  · exact h.elim
