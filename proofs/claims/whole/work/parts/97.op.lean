/-! ===== PatchReader.readOp ===== -/
def lZ (a : Int) : Int64 := Int64.ofInt a
theorem lZ_add (a b : Int) : lZ a + lZ b = lZ (a + b) := (Int64.ofInt_add a b).symm
theorem lZ_mul (a b : Int) : lZ a * lZ b = lZ (a * b) := (Int64.ofInt_mul a b).symm
theorem lZ_int {a : Int} (h1 : -9223372036854775808 ≤ a) (h2 : a < 9223372036854775808) : (lZ a).toInt = a := Int64.toInt_ofInt_of_le h1 h2
theorem lZ_lt0 {a : Int} (h1 : -9223372036854775808 ≤ a) (h2 : a < 9223372036854775808) : lg_cmp (lZ a) 0 < 0 ↔ a < 0 := by
  rw [lg_cmp_lt, Int64.lt_iff_toInt_lt, lZ_int h1 h2]
  exact Iff.rfl
theorem lZ_of {n : Nat} (h : n < 2147483648) : (nI n).toInt64 = lZ n := by
  show (Int32.ofNat n).toInt64 = Int64.ofInt n
  rw [← Int32.ofInt_eq_ofNat]
  exact Int32.toInt64_ofInt (by show (-2147483648 : Int) ≤ n; omega) (by show (n : Int) ≤ 2147483647; omega)
theorem lZ_neg {n : Nat} (h : n < 2147483648) : (-nI n - 1).toInt64 = lZ (-(n : Int) - 1) := by
  rw [show -nI n - 1 = Int32.ofInt (-(n : Int) - 1) from by rw [Int32.ofInt_sub, Int32.ofInt_neg, Int32.ofInt_eq_ofNat]; rfl]
  exact Int32.toInt64_ofInt (by show (-2147483648 : Int) ≤ _; omega) (by show _ ≤ (2147483647 : Int); omega)
theorem nI_div3 {n : Nat} (h : n < 2147483648) : nI n / 3 = nI (n / 3) := (Int32.ofNat_div h (by decide)).symm
theorem nI_rem3 {n : Nat} (h : n < 2147483648) : nI n - nI n / 3 * 3 = nI (n % 3) := by
  rw [nI_div3 h, show nI (n / 3) * 3 = nI (n / 3 * 3) from (Int32.ofNat_mul (n / 3) 3).symm, pk_sub (by omega)]
  exact congrArg nI (by omega)
/-- what a code says: how far from where one was expected, and by how much each event moves on -/
def zz (c : Nat) : Int := if c / 3 % 2 = 0 then ((c / 3 / 2 : Nat) : Int) else -((c / 3 / 2 : Nat) : Int) - 1
def opS (k : Nat) : Int := if k = 0 then 1 else if k = 1 then 0 else -1
/-- an operation: its kind, its index, what is expected behind it, where the next begins -/
def rdO (B : List Nat) (q p : Nat) (z : Nat) (e : Int) : Option (Nat × Int × Int × Nat) := (vint B q p).1.bind fun c => if 0 ≤ e + zz c ∧ 0 ≤ e + zz c + opS (c % 3) * ((z : Int) - 1) then some (c % 3, e + zz c, e + zz c + opS (c % 3) * z, (vint B q p).2) else none
theorem zz_b {c : Nat} (h : c < 2147483648) : -1073741824 ≤ zz c ∧ zz c ≤ 1073741824 := by
  unfold zz
  split <;> omega
theorem opS_b (k : Nat) : opS k = 1 ∨ opS k = 0 ∨ opS k = -1 := by
  unfold opS
  split
  · exact Or.inl rfl
  split
  · exact Or.inr (Or.inl rfl)
  · exact Or.inr (Or.inr rfl)
section RDOS
variable {B : List Nat} {q p z c : Nat} {e : Int}
theorem rdO_1 (h : (vint B q p).1 = none) : rdO B q p z e = none := by unfold rdO; rw [h]; rfl
theorem rdO_2 (h : (vint B q p).1 = some c) (hn : ¬ (0 ≤ e + zz c ∧ 0 ≤ e + zz c + opS (c % 3) * ((z : Int) - 1))) : rdO B q p z e = none := by
  unfold rdO
  rw [h]
  exact if_neg hn
theorem rdO_3 (h : (vint B q p).1 = some c) (hn : 0 ≤ e + zz c ∧ 0 ≤ e + zz c + opS (c % 3) * ((z : Int) - 1)) : rdO B q p z e = some (c % 3, e + zz c, e + zz c + opS (c % 3) * z, (vint B q p).2) := by
  unfold rdO
  rw [h]
  exact if_pos hn
end RDOS
def roX (r m c0 q p : Nat) (B : List Nat) (S S1 : MM) (c : Nat) : Prop := (vint B q p).1 = some c ∧ RW (fun b => b = c0) [917, 918, 919] r S S1 ∧ Cu S1 c0 m (vint B q p).2 q ∧ mI S1 917 r = nI (c % 3)
def roQ (r m c0 q p z : Nat) (e : Int) (B : List Nat) (S S' : MM) (v : Int32) : Prop := RW (fun b => b = c0) [917, 918, 919] r S S' ∧ ((v = 1 ∧ ∃ k i e' p', rdO B q p z e = some (k, i, e', p') ∧ k < 3 ∧ mI S' 917 r = nI k ∧ mJ S' 918 r = lZ i ∧ mJ S' 919 r = lZ e' ∧ Cu S' c0 m p' q) ∨ (v = 0 ∧ rdO B q p z e = none))
def I_ro1 (r m c0 q p : Nat) (B : List Nat) (S : MM) (t : Nat) : KT := fun lo st S1 cs sl => ∃ c, t = 3 ∧ roX r m c0 q p B S S1 c ∧ mJ S1 919 r = mJ S 919 r ∧ lo = [(2, .inl (nI (c / 3))), (0, .inr (.inr (some r)))] ∧ st = [] ∧ cs = 0 ∧ sl = 0
def I_ro2 (r m c0 q p : Nat) (e : Int) (B : List Nat) (S : MM) (t : Nat) : KT := fun lo st S1 cs sl => ∃ c, t = 2 ∧ roX r m c0 q p B S S1 c ∧ mJ S1 918 r = lZ (e + zz c) ∧ lo = [(0, .inr (.inr (some r)))] ∧ st = [] ∧ cs = 0 ∧ sl = 0
def I_ro3 (r m c0 q p : Nat) (e : Int) (B : List Nat) (S : MM) (t : Nat) : KT := fun lo st S1 cs sl => ∃ c, t = 1 ∧ roX r m c0 q p B S S1 c ∧ mJ S1 918 r = lZ (e + zz c) ∧ lo = [(3, .inr (.inl (lZ (opS (c % 3))))), (0, .inr (.inr (some r)))] ∧ st = [] ∧ cs = 0 ∧ sl = 0
def T_rro : TR := fun Rc Rs av S cs sl K _Kx => match av with
  | [.inr (.inr r_o)] => pa r_o fun r => (∃ (F : Nat → Nat × Nat) (j pk : Nat) (cu : Nat → Nat) (ids fnd m d : Nat) (B : List Nat) (q p z : Nat) (e : Int), (RD S F j r pk cu ids fnd ∧ Cu S (cu 4) m p q ∧ By S m d B ∧ mI S 914 r = nI z ∧ 1 ≤ z ∧ z < 2147483648 ∧ mJ S 919 r = lZ e ∧ -1000000000000000 ≤ e ∧ e ≤ 1000000000000000) ∧ cs ≤ Rc ∧ sl ≤ Rs ∧ (∀ (v : Int32) (S' : MM), (roQ r m (cu 4) q p z e B S S' v) → K (some (.inl v)) S' cs sl))
  | _ => False
def sp_rro (r : Nat) (F : Nat → Nat × Nat) (j pk : Nat) (cu : Nat → Nat) (ids fnd m d : Nat) (B : List Nat) (q p z : Nat) (e : Int) : Sp := (fun av S => av = [.inr (.inr (some r))] ∧ (RD S F j r pk cu ids fnd ∧ Cu S (cu 4) m p q ∧ By S m d B ∧ mI S 914 r = nI z ∧ 1 ≤ z ∧ z < 2147483648 ∧ mJ S 919 r = lZ e ∧ -1000000000000000 ≤ e ∧ e ≤ 1000000000000000), fun _ S => 0, fun _ S => 0, fun _ S rv S' => ∃ v, rv = (some (.inl v)) ∧ (roQ r m (cu 4) q p z e B S S' v), fun _ _ _ _ => False)
def tX8_readOp : CD := [(0, .aload_n 0), (1, .getfield 27), (4, .invokevirtual 122), (7, .istore_n 1), (8, .iload_n 1), (9, .ifCond .ge 5), (12, .iconst 0), (13, .ireturn), (14, .aload_n 0), (15, .iload_n 1), (16, .iconst 3), (17, .irem), (18, .putfield 69), (21, .iload_n 1), (22, .iconst 3), (23, .idiv), (24, .istore_n 2), (25, .aload_n 0), (26, .aload_n 0), (27, .getfield 76), (30, .iload_n 2), (31, .iconst 1), (32, .iand), (33, .ifCond .ne 9), (36, .iload_n 2), (37, .iconst 1), (38, .ishr), (39, .goto 9), (42, .iload_n 2), (43, .iconst 1), (44, .ishr), (45, .ineg), (46, .iconst 1), (47, .isub), (48, .i2l), (49, .ladd), (50, .putfield 72), (53, .aload_n 0), (54, .getfield 69), (57, .ifCond .ne 7), (60, .lconst 1), (61, .goto 18), (64, .aload_n 0), (65, .getfield 69), (68, .iconst 1), (69, .if_icmp .ne 7), (72, .lconst 0), (73, .goto 6), (76, .ldc2_w 137), (79, .lstore_n 3), (80, .aload_n 0), (81, .aload_n 0), (82, .getfield 72), (85, .lload_n 3), (86, .aload_n 0), (87, .getfield 60), (90, .i2l), (91, .lmul), (92, .ladd), (93, .putfield 76), (96, .aload_n 0), (97, .getfield 72), (100, .lconst 0), (101, .lcmp), (102, .ifCond .lt 26), (105, .aload_n 0), (106, .getfield 72), (109, .lload_n 3), (110, .aload_n 0), (111, .getfield 60), (114, .iconst 1), (115, .isub), (116, .i2l), (117, .lmul), (118, .ladd), (119, .lconst 0), (120, .lcmp), (121, .ifCond .lt 7), (124, .iconst 1), (125, .goto 4), (128, .iconst 0), (129, .ireturn)]
set_option maxRecDepth 100000 in
theorem kX8_readOp : chk cX8_readOp tX8_readOp = true := by decide +kernel
theorem vX8_readOp_122 : ∀ w ∈ ([.methodLink RX8 122 yX2_varint, .instanceMethod yX2_varint, .selects yX2_varint.cls yX2_varint yX2_varint, .initialized yX2_varint.cls, .code yX2_varint cX2_varint 4 (some .int)] : List Cond), w ∈ lw_good := List.forall_mem_cons.mpr ⟨mgd 1512 (by decide +kernel) (by decide +kernel), List.forall_mem_cons.mpr ⟨mgd 1482 (by decide +kernel) (by decide +kernel), List.forall_mem_cons.mpr ⟨mgd 1483 (by decide +kernel) (by decide +kernel), List.forall_mem_cons.mpr ⟨mgd 131 (by decide +kernel) (by decide +kernel), List.forall_mem_cons.mpr ⟨mgd 1484 (by decide +kernel) (by decide +kernel), fun _ h => absurd h List.not_mem_nil⟩⟩⟩⟩⟩
set_option maxRecDepth 100000 in
set_option maxHeartbeats 2000000 in
theorem c_rro (l : Launch) : ∀ (r : Nat) (F : Nat → Nat × Nat) (j pk : Nat) (cu : Nat → Nat) (ids fnd m d : Nat) (B : List Nat) (q p z : Nat) (e : Int), Ct l yX8_readOp cX8_readOp 5 (some .boolean) 2 44 (sp_rro r F j pk cu ids fnd m d B q p z e) := by
  intro r F j pk cu ids fnd m d B q p z e
  refine Ct.of (fX8, nX8, aX8, iX8, lX8, [(122, 0, 1, 1, T_cvar)], qX8, gX8, []) false tX8_readOp (fun _ S => look [(25, ([2,0], I_ro1 r m (cu 4) q p B S)), (53, ([0], I_ro2 r m (cu 4) q p e B S)), (80, ([3,0], I_ro3 r m (cu 4) q p e B S))]) (by decide) (by decide) kX8_readOp ⟨_, _, rfl⟩ fX8_ok nX8_ok aX8_ok iX8_ok lX8_ok (fun p e R s m args below meth c Q D cy z r A C hR1 hR2 => List.forall_mem_cons.mpr ⟨cOK_use (fun _ _ _ _ _ _ _ _ h => let ⟨sp, h1, h2, h3⟩ := u_cvar l _ _ _ _ _ _ _ _ h; ⟨sp, cOK_V C h1 vX8_readOp_122 ⟨by decide, by decide, by decide +kernel⟩ ⟨by rw [hR1]; decide, by rw [hR2]; decide⟩ (k := 3) (T := TX2) (N := 3) rfl (by decide) h2, h3⟩), fun _ h => absurd h List.not_mem_nil⟩) qX8_ok gX8_ok rfl ?_ ?_
  · rintro _ S ⟨rfl, hp⟩
    refine ⟨Nat.le_of_ble_eq_true rfl, 300, ?_⟩
    show (isO S 9 r ∧ (0 = 0 ∧ ((pa (mR S 905 r) fun a_1 => (∃ (s_2 d_3 p_4 q_5 : Nat) (B_6 : List Nat), (Cu S a_1 s_2 p_4 q_5 ∧ By S s_2 d_3 B_6) ∧ 0 ≤ 0 ∧ 0 ≤ 0 ∧ (((0 ≤ (oI (vint B_6 q_5 p_4).1) → (¬ (3 : Int32) = 0 ∧ (True ∧ (isO (sI S 301 a_1 (nI (vint B_6 q_5 p_4).2)) 9 r ∧ (¬ (3 : Int32) = 0 ∧ (∃ k1, I_ro1 r m (cu 4) q p B S k1 [(2, .inl ((oI (vint B_6 q_5 p_4).1) / (3 : Int32))), (0, .inr (.inr (some r)))] [] (sI (sI S 301 a_1 (nI (vint B_6 q_5 p_4).2)) 917 r ((oI (vint B_6 q_5 p_4).1) - (oI (vint B_6 q_5 p_4).1) / (3 : Int32) * (3 : Int32))) 0 0)))))) ∧ (¬ 0 ≤ (oI (vint B_6 q_5 p_4).1) → (([] : List MV) = [] ∧ mret (some .boolean) (sp_rro r F j pk cu ids fnd m d B q p z e) [.inr (.inr (some r))] S (some (.inl (0 : Int32))) (sI S 301 a_1 (nI (vint B_6 q_5 p_4).2)) 0 0)))))))))
    obtain ⟨hR, hC, hB, hz, hz1, hz2, he, he1, he2⟩ := hp
    have c4 := hR.2.2.2.1 4 (by decide)
    have hv := vint_le (B := B) hC.2.2.2.2.1
    have rc := hR.cr (a := 4) (by decide)
    have r0 : RW (fun b => b = cu 4) [917, 918, 919] r S (sI S 301 (cu 4) (nI (vint B q p).2)) := RW.rf.wIo rfl rc
    refine ⟨hR.1, rfl, pa_i c4.1 ⟨m, d, p, q, B, ⟨hC, hB⟩, Nat.le_refl _, Nat.le_refl _, ?_⟩⟩
    cases ev : (vint B q p).1 with
    | none => exact ⟨fun z => absurd z (by decide), fun _ => ⟨rfl, Or.inl rfl, ⟨0, rfl, r0, Or.inr ⟨rfl, rdO_1 ev⟩⟩, Nat.le_refl _, Nat.le_refl _⟩⟩
    | some c =>
      have hc := vint_lt hB.bytesLt ev
      refine ⟨fun _ => ⟨by decide, trivial, hR.1, by decide, 3, c, rfl, ⟨ev, r0.wI (by decide), ?_, ?_⟩, rfl, ?_, rfl, rfl, rfl⟩, fun z => absurd (oI_ge rfl hc) z⟩
      · exact (hC.mv hv.2).keep (Keep.sI (P := fun b => b = r) Keep.rf rfl) (fun e => rc e.symm)
      · rw [mI_sIs]; exact nI_rem3 hc
      · rw [show oI (some c) / 3 = nI (c / 3) from nI_div3 hc]
  · intro av S hpre pc I hI k lo st S1 cs sl h
    obtain ⟨rfl, hp⟩ := hpre
    have hm := look_in hI
    simp only [List.mem_cons, List.not_mem_nil, or_false] at hm
    rcases hm with hm | hm | hm
    · cases hm
      obtain ⟨c, rfl, hX, hj, rfl, rfl, rfl, rfl⟩ := h
      obtain ⟨hR, hC, hB, hz, hz1, hz2, he, he1, he2⟩ := hp
      obtain ⟨x1, x2, x3, x4⟩ := hX
      have hc := vint_lt hB.bytesLt x1
      have hR1 := x2.rd hR (by decide)
      have rc := hR.cr (a := 4) (by decide)
      have z14 : mI S1 914 r = nI z := (x2.2.1 914 (by decide)).trans hz
      have zb := zz_b hc
      refine ⟨300, ?_⟩
      show (isO S1 9 r ∧ ((¬ ((nI (c / 3)) &&& (1 : Int32)) = 0 → (True ∧ (isO S1 9 r ∧ (∃ k1, k1 < 3 ∧ I_ro2 r m (cu 4) q p e B S k1 [(0, .inr (.inr (some r)))] [] (sJ S1 918 r ((mJ S1 919 r) + (((-((nI (c / 3)) >>> ((1 : Int32) &&& 31))) - (1 : Int32)).toInt64))) 0 0)))) ∧ (((nI (c / 3)) &&& (1 : Int32)) = 0 → (True ∧ (isO S1 9 r ∧ (∃ k1, k1 < 3 ∧ I_ro2 r m (cu 4) q p e B S k1 [(0, .inr (.inr (some r)))] [] (sJ S1 918 r ((mJ S1 919 r) + (((nI (c / 3)) >>> ((1 : Int32) &&& 31)).toInt64))) 0 0))))))
      have hd : nI (c / 3) &&& 1 = nI (c / 3 % 2) := pk_andN (by omega) 1 (by decide)
      have fin : ∀ w : Int64, mJ S1 919 r + w = lZ (e + zz c) → ∃ k1, k1 < 3 ∧ I_ro2 r m (cu 4) q p e B S k1 [(0, .inr (.inr (some r)))] [] (sJ S1 918 r (mJ S1 919 r + w)) 0 0 := by
        intro w hw
        rw [hw]
        refine ⟨2, by decide, c, rfl, ⟨x1, x2.wJ (by decide), ?_, x4⟩, ?_, rfl, rfl, rfl, rfl⟩
        · exact x3.keep (Keep.sJ (P := fun b => b = r) Keep.rf rfl) (fun e => rc e.symm)
        · rw [mJ_sJ, if_pos ⟨rfl, rfl⟩]
      rw [shr1_nI (by omega), hd, hj, he]
      rw [hj, he] at fin
      refine ⟨hR1.1, fun h0 => ⟨trivial, hR1.1, fin _ ?_⟩, fun h0 => ⟨trivial, hR1.1, fin _ ?_⟩⟩
      · have h1 : c / 3 % 2 ≠ 0 := fun q => h0 (by rw [q]; rfl)
        rw [lZ_neg (by omega), lZ_add]
        unfold zz
        rw [if_neg h1]
      · have h1 : c / 3 % 2 = 0 := (nI_eq (b := 0) (by omega) (by decide)).1 h0
        rw [lZ_of (by omega), lZ_add]
        unfold zz
        rw [if_pos h1]
    · cases hm
      obtain ⟨c, rfl, hX, hj, rfl, rfl, rfl, rfl⟩ := h
      obtain ⟨hR, hC, hB, hz, hz1, hz2, he, he1, he2⟩ := hp
      obtain ⟨x1, x2, x3, x4⟩ := hX
      have hc := vint_lt hB.bytesLt x1
      have hR1 := x2.rd hR (by decide)
      have rc := hR.cr (a := 4) (by decide)
      have z14 : mI S1 914 r = nI z := (x2.2.1 914 (by decide)).trans hz
      have zb := zz_b hc
      refine ⟨300, ?_⟩
      show (isO S1 9 r ∧ ((¬ (mI S1 917 r) = 0 → (isO S1 9 r ∧ ((¬ (mI S1 917 r) = (1 : Int32) → (∃ k1, k1 < 2 ∧ I_ro3 r m (cu 4) q p e B S k1 [(3, .inr (.inl (-1 : Int64))), (0, .inr (.inr (some r)))] [] S1 0 0)) ∧ ((mI S1 917 r) = (1 : Int32) → (∃ k1, k1 < 2 ∧ I_ro3 r m (cu 4) q p e B S k1 [(3, .inr (.inl (0 : Int64))), (0, .inr (.inr (some r)))] [] S1 0 0))))) ∧ ((mI S1 917 r) = 0 → (∃ k1, k1 < 2 ∧ I_ro3 r m (cu 4) q p e B S k1 [(3, .inr (.inl (1 : Int64))), (0, .inr (.inr (some r)))] [] S1 0 0))))
      have fin : ∀ w : Int64, w = lZ (opS (c % 3)) → ∃ k1, k1 < 2 ∧ I_ro3 r m (cu 4) q p e B S k1 [(3, .inr (.inl w)), (0, .inr (.inr (some r)))] [] S1 0 0 := fun w hw => ⟨1, by decide, c, rfl, ⟨x1, x2, x3, x4⟩, hj, by rw [hw], rfl, rfl, rfl⟩
      rw [x4]
      refine ⟨hR1.1, fun h0 => ⟨hR1.1, fun h1 => fin _ ?_, fun h1 => fin _ ?_⟩, fun h0 => fin _ ?_⟩
      · have g0 : c % 3 ≠ 0 := fun q => h0 (by rw [q]; rfl)
        have g1 : c % 3 ≠ 1 := fun q => h1 (by rw [q]; rfl)
        unfold opS
        rw [if_neg g0, if_neg g1]; rfl
      · have g0 : c % 3 ≠ 0 := fun q => h0 (by rw [q]; rfl)
        have g1 : c % 3 = 1 := (nI_eq (b := 1) (by omega) (by decide)).1 h1
        rw [g1]; rfl
      · have g0 : c % 3 = 0 := (nI_eq (b := 0) (by omega) (by decide)).1 h0
        rw [g0]; rfl
    · cases hm
      obtain ⟨c, rfl, hX, hj, rfl, rfl, rfl, rfl⟩ := h
      obtain ⟨hR, hC, hB, hz, hz1, hz2, he, he1, he2⟩ := hp
      obtain ⟨x1, x2, x3, x4⟩ := hX
      have hc := vint_lt hB.bytesLt x1
      have hR1 := x2.rd hR (by decide)
      have rc := hR.cr (a := 4) (by decide)
      have z14 : mI S1 914 r = nI z := (x2.2.1 914 (by decide)).trans hz
      have zb := zz_b hc
      refine ⟨300, ?_⟩
      show (isO S1 9 r ∧ (isO S1 9 r ∧ (True ∧ (isO S1 9 r ∧ (isO (sJ S1 919 r ((mJ S1 918 r) + ((lZ (opS (c % 3))) * ((mI S1 914 r).toInt64)))) 9 r ∧ (((lg_cmp (mJ (sJ S1 919 r ((mJ S1 918 r) + ((lZ (opS (c % 3))) * ((mI S1 914 r).toInt64)))) 918 r) (0 : Int64)) < 0 → (([] : List MV) = [] ∧ mret (some .boolean) (sp_rro r F j pk cu ids fnd m d B q p z e) [.inr (.inr (some r))] S (some (.inl (0 : Int32))) (sJ S1 919 r ((mJ S1 918 r) + ((lZ (opS (c % 3))) * ((mI S1 914 r).toInt64)))) 0 0)) ∧ (¬ (lg_cmp (mJ (sJ S1 919 r ((mJ S1 918 r) + ((lZ (opS (c % 3))) * ((mI S1 914 r).toInt64)))) 918 r) (0 : Int64)) < 0 → (isO (sJ S1 919 r ((mJ S1 918 r) + ((lZ (opS (c % 3))) * ((mI S1 914 r).toInt64)))) 9 r ∧ (isO (sJ S1 919 r ((mJ S1 918 r) + ((lZ (opS (c % 3))) * ((mI S1 914 r).toInt64)))) 9 r ∧ (((lg_cmp ((mJ (sJ S1 919 r ((mJ S1 918 r) + ((lZ (opS (c % 3))) * ((mI S1 914 r).toInt64)))) 918 r) + ((lZ (opS (c % 3))) * (((mI (sJ S1 919 r ((mJ S1 918 r) + ((lZ (opS (c % 3))) * ((mI S1 914 r).toInt64)))) 914 r) - (1 : Int32)).toInt64))) (0 : Int64)) < 0 → (([] : List MV) = [] ∧ mret (some .boolean) (sp_rro r F j pk cu ids fnd m d B q p z e) [.inr (.inr (some r))] S (some (.inl (0 : Int32))) (sJ S1 919 r ((mJ S1 918 r) + ((lZ (opS (c % 3))) * ((mI S1 914 r).toInt64)))) 0 0)) ∧ (¬ (lg_cmp ((mJ (sJ S1 919 r ((mJ S1 918 r) + ((lZ (opS (c % 3))) * ((mI S1 914 r).toInt64)))) 918 r) + ((lZ (opS (c % 3))) * (((mI (sJ S1 919 r ((mJ S1 918 r) + ((lZ (opS (c % 3))) * ((mI S1 914 r).toInt64)))) 914 r) - (1 : Int32)).toInt64))) (0 : Int64)) < 0 → (([] : List MV) = [] ∧ mret (some .boolean) (sp_rro r F j pk cu ids fnd m d B q p z e) [.inr (.inr (some r))] S (some (.inl (1 : Int32))) (sJ S1 919 r ((mJ S1 918 r) + ((lZ (opS (c % 3))) * ((mI S1 914 r).toInt64)))) 0 0))))))))))))
      have e1 : mJ S1 918 r + lZ (opS (c % 3)) * (mI S1 914 r).toInt64 = lZ (e + zz c + opS (c % 3) * z) := by rw [hj, z14, lZ_of hz2, lZ_mul, lZ_add]
      rw [e1]
      have r2 : RW (fun b => b = cu 4) [917, 918, 919] r S (sJ S1 919 r (lZ (e + zz c + opS (c % 3) * z))) := x2.wJ (by decide)
      have e2 : mJ (sJ S1 919 r (lZ (e + zz c + opS (c % 3) * z))) 918 r = lZ (e + zz c) := by rw [mJ_sJ, if_neg (fun z => absurd z.1 (by decide))]; exact hj
      have e3 : mI (sJ S1 919 r (lZ (e + zz c + opS (c % 3) * z))) 914 r - 1 = nI (z - 1) := by rw [mI_sJ, z14]; exact pk_sub (b := 1) hz1
      rw [e2, e3, lZ_of (by omega), lZ_mul, lZ_add]
      have cz : ((z - 1 : Nat) : Int) = (z : Int) - 1 := by omega
      rw [cz]
      have b1 : -9223372036854775808 ≤ e + zz c ∧ e + zz c < 9223372036854775808 := by omega
      have b2 : -9223372036854775808 ≤ e + zz c + opS (c % 3) * ((z : Int) - 1) ∧ e + zz c + opS (c % 3) * ((z : Int) - 1) < 9223372036854775808 := by
        rcases opS_b (c % 3) with w | w | w <;> rw [w] <;> omega
      have no : rdO B q p z e = none → mret (some .boolean) (sp_rro r F j pk cu ids fnd m d B q p z e) [.inr (.inr (some r))] S (some (.inl 0)) (sJ S1 919 r (lZ (e + zz c + opS (c % 3) * z))) 0 0 := fun h => ⟨Or.inl rfl, ⟨0, rfl, r2, Or.inr ⟨rfl, h⟩⟩, Nat.le_refl _, Nat.le_refl _⟩
      refine ⟨hR1.1, hR1.1, trivial, hR1.1, hR1.1, fun h0 => ⟨rfl, no (rdO_2 x1 (fun w => ?_))⟩, fun h0 => ⟨hR1.1, hR1.1, fun h1 => ⟨rfl, no (rdO_2 x1 (fun w => ?_))⟩, fun h1 => ⟨rfl, Or.inr rfl, ⟨1, rfl, r2, Or.inl ⟨rfl, c % 3, e + zz c, e + zz c + opS (c % 3) * z, (vint B q p).2, rdO_3 x1 ⟨?_, ?_⟩, by omega, x4, e2, ?_, ?_⟩⟩, Nat.le_refl _, Nat.le_refl _⟩⟩⟩
      · have := (lZ_lt0 b1.1 b1.2).1 h0; omega
      · have := (lZ_lt0 b2.1 b2.2).1 h1; omega
      · have g0 : ¬ (e + zz c < 0) := fun w => h0 ((lZ_lt0 b1.1 b1.2).2 w)
        omega
      · have g1 : ¬ (e + zz c + opS (c % 3) * ((z : Int) - 1) < 0) := fun w => h1 ((lZ_lt0 b2.1 b2.2).2 w)
        omega
      · rw [mJ_sJ, if_pos ⟨rfl, rfl⟩]
      · exact x3.keep (Keep.sJ (P := fun b => b = r) Keep.rf rfl) (fun e => rc e.symm)
theorem u_rro (l : Launch) : Us l yX8_readOp cX8_readOp 5 (some .boolean) 2 44 9 T_rro := by
  intro Rc Rs av S cs sl K Kx h
  unfold T_rro at h
  split at h
  · rename_i r_o
    obtain ⟨r, rfl, h_1⟩ := pa_of h
    obtain ⟨F, j, pk, cu, ids, fnd, m, d, B, q, p, z, e, hp, hc, hs, hk⟩ := h_1
    refine ⟨(sp_rro r F j pk cu ids fnd m d B q p z e), c_rro l r F j pk cu ids fnd m d B q p z e, fun _ _ h9 => ⟨_, _, h9.1, h9.2.1.1⟩, ⟨rfl, hp⟩, hc, hs, fun v9 S' h8 => by
      obtain ⟨v8, h7, h8⟩ := h8
      cases h7
      exact hk _ _ h8, fun _ _ q => q.elim⟩
  · exact h.elim
