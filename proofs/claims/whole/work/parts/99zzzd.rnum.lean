/-! ===== The reference reads a number ===== -/
theorem lsh_lN {a c : Nat} {s : Int64} (hc : c ≤ 28) (hs : s.toBitVec.smod 64 = BitVec.ofNat 64 c) (ha : a < 128) : lN a <<< s = lN (a * 2 ^ c) := by
  apply Int64.toBitVec_inj.1
  rw [Int64.toBitVec_shiftLeft, hs]
  apply BitVec.eq_of_toNat_eq
  have h1 : a * 2 ^ c < 128 * 2 ^ 28 := by
    have h2 : (2 : Nat) ^ c ≤ 2 ^ 28 := Nat.pow_le_pow_right (by decide) hc
    have h3 : a * 2 ^ c ≤ a * 2 ^ 28 := Nat.mul_le_mul_left _ h2
    omega
  rw [BitVec.shiftLeft_eq', BitVec.toNat_shiftLeft, BitVec.toNat_ofNat, Nat.mod_eq_of_lt (show c < 2 ^ 64 by omega), lB_nat (by omega), lB_nat (by omega), Nat.shiftLeft_eq, Nat.mod_eq_of_lt (by omega)]
theorem or_lN {w a c : Nat} (hw : w < 2 ^ c) (hb : w + a * 2 ^ c < 2 ^ 62) : lN w ||| lN (a * 2 ^ c) = lN (w + a * 2 ^ c) := by
  apply Int64.toBitVec_inj.1
  rw [Int64.toBitVec_or]
  apply BitVec.eq_of_toNat_eq
  rw [BitVec.toNat_or, lB_nat (by omega), lB_nat (by omega), lB_nat (by omega), Nat.or_comm]
  have := Nat.two_pow_add_eq_or_of_lt hw a
  rw [Nat.mul_comm a, ← this]; omega
theorem shvL {o i w : Nat} (ho : o < 256) (hi : i ≤ 4) (hw : w < 2 ^ (7 * i)) : lN w ||| ((nI o &&& 127).toInt64 <<< (((7 : Int32) * nI i).toInt64 &&& 63)) = lN (w + (o % 128) * 2 ^ (7 * i)) ∧ w + (o % 128) * 2 ^ (7 * i) < 2 ^ (7 * (i + 1)) ∧ w + (o % 128) * 2 ^ (7 * i) < 2 ^ 35 := by
  have h1 : nI o &&& 127 = nI (o % 128) := pk_andN (by omega) 7 (by decide)
  have hp2 : 2 ^ (7 * (i + 1)) = 2 ^ (7 * i) * 128 := by rw [Nat.mul_add, Nat.pow_add]
  have hb : (o % 128) * 2 ^ (7 * i) ≤ 127 * 2 ^ (7 * i) := Nat.mul_le_mul_right _ (by omega)
  have hb2 : 2 ^ (7 * i) ≤ 2 ^ 28 := Nat.pow_le_pow_right (by decide) (by omega)
  have hs : (((7 : Int32) * nI i).toInt64 &&& 63).toBitVec.smod 64 = BitVec.ofNat 64 (7 * i) := by
    rcases (show i = 0 ∨ i = 1 ∨ i = 2 ∨ i = 3 ∨ i = 4 by omega) with e | e | e | e | e <;> subst e <;> decide
  rw [h1, nI_l (by omega), lsh_lN (by omega) hs (by omega), or_lN hw (by omega)]
  exact ⟨rfl, by omega, by omega⟩
/-- what is being read: the row of bytes, the place, the end -/
def rdP9 (S : MM) (t r : Nat) (B : List Nat) (p q : Nat) : Prop := mR S 1534 t = some r ∧ byN S r B ∧ mI S 1535 t = nI p ∧ mI S 1536 t = nI q ∧ p ≤ q ∧ q ≤ B.length
def nuQ (S S' : MM) (t : Nat) (B : List Nat) (p q : Nat) : Prop := ∃ p', p ≤ p' ∧ p' ≤ q ∧ S' = sI S 1535 t (nI p') ∧ ∀ n, (vint B q p).1 = some n → p' = (vint B q p).2
def I_nu (t p q : Nat) (B : List Nat) (S : MM) (k : Nat) : KT := fun lo st S1 cs sl => ∃ i j p1 w, k = 2 * j ∧ i + j = 5 ∧ p ≤ p1 ∧ p1 ≤ q ∧ w < 2 ^ (7 * i) ∧ (i ≤ 4 → vint B q p = vrd B q j p1 i w) ∧ (i = 5 → (vint B q p).1 = none) ∧ lo = [(0, .inr (.inr (some t))), (1, .inr (.inl (lN w))), (3, .inl (nI i))] ∧ st = [] ∧ S1 = sI S 1535 t (nI p1) ∧ cs = 0 ∧ sl = 0
def I_nu2 (t p q : Nat) (B : List Nat) (S : MM) (k : Nat) : KT := fun lo st S1 cs sl => ∃ i j p1 w0 x, k = 2 * j + 1 ∧ i + j = 4 ∧ p ≤ p1 ∧ p1 ≤ q ∧ w0 < 2 ^ (7 * i) ∧ x < 256 ∧ vint B q p = (if i = 4 ∧ 7 < x then (none, p1) else if 128 ≤ x then vrd B q j p1 (i + 1) (w0 + (x - 128) * 2 ^ (7 * i)) else if x = 0 ∧ 0 < i then (none, p1) else (some (w0 + x * 2 ^ (7 * i)), p1)) ∧ lo = [(0, .inr (.inr (some t))), (1, .inr (.inl (lN (w0 + (x % 128) * 2 ^ (7 * i))))), (3, .inl (nI i)), (4, .inl (nI x))] ∧ st = [] ∧ S1 = sI S 1535 t (nI p1) ∧ cs = 0 ∧ sl = 0
def T_rnum : TR := fun Rc Rs av S cs sl K _Kx => match av with
  | [.inr (.inr t_o)] => pa t_o fun t => (∃ (F : Nat → Nat × Nat) (z : Nat → Nat) (Y : Nat → Nat → Nat) (R : Rb) (kz : Nat → Nat) (r : Nat) (B : List Nat) (p q : Nat), (MD S F t z Y R kz ∧ rdP9 S t r B p q) ∧ cs ≤ Rc ∧ sl ≤ Rs ∧ (∀ (S' : MM), (nuQ S S' t B p q) → K (some (.inr (.inl (oJ (vint B q p).1)))) S' cs sl))
  | _ => False
def sp_rnum (t : Nat) (F : Nat → Nat × Nat) (z : Nat → Nat) (Y : Nat → Nat → Nat) (R : Rb) (kz : Nat → Nat) (r : Nat) (B : List Nat) (p q : Nat) : Sp := (fun av S => av = [.inr (.inr (some t))] ∧ (MD S F t z Y R kz ∧ rdP9 S t r B p q), fun _ S => 0, fun _ S => 0, fun _ S rv S' => rv = (some (.inr (.inl (oJ (vint B q p).1)))) ∧ (nuQ S S' t B p q), fun _ _ _ _ => False)
def tX14_number : CD := [(0, .lconst 0), (1, .lstore_n 1), (2, .iconst 0), (3, .istore_n 3), (4, .iload_n 3), (5, .iconst 5), (6, .if_icmp .ge 96), (9, .aload_n 0), (10, .getfield 398), (13, .aload_n 0), (14, .getfield 401), (17, .if_icmp .lt 7), (20, .ldc2_w 404), (23, .lreturn), (24, .aload_n 0), (25, .getfield 406), (28, .aload_n 0), (29, .getfield 398), (32, .baload), (33, .sipush 255), (36, .iand), (37, .istore 4), (39, .aload_n 0), (40, .dup), (41, .getfield 398), (44, .iconst 1), (45, .iadd), (46, .putfield 398), (49, .lload_n 1), (50, .iload 4), (52, .bipush 127), (54, .iand), (55, .i2l), (56, .bipush 7), (58, .iload_n 3), (59, .imul), (60, .lshl), (61, .lor), (62, .lstore_n 1), (63, .iload 4), (65, .sipush 128), (68, .if_icmp .ge 28), (71, .iload_n 3), (72, .ifCond .le 8), (75, .iload 4), (77, .ifCond .eq 11), (80, .lload_n 1), (81, .ldc2_w 411), (84, .lcmp), (85, .ifCond .le 9), (88, .ldc2_w 404), (91, .goto 4), (94, .lload_n 1), (95, .lreturn), (96, .iinc 3 1), (99, .goto (-95)), (102, .ldc2_w 404), (105, .lreturn)]
set_option maxRecDepth 100000 in
theorem kX14_number : chk cX14_number tX14_number = true := by decide +kernel

set_option maxRecDepth 100000 in
set_option maxHeartbeats 2000000 in
theorem c_rnum (l : Launch) : ∀ (t : Nat) (F : Nat → Nat × Nat) (z : Nat → Nat) (Y : Nat → Nat → Nat) (R : Rb) (kz : Nat → Nat) (r : Nat) (B : List Nat) (p q : Nat), Ct l yX14_number cX14_number 5 (some .long) 0 0 (sp_rnum t F z Y R kz r B p q) := by
  intro t F z Y R kz r B p q
  refine Ct.of (fX14, nX14, aX14, iX14, lX14, [], qX14, gX14, []) false tX14_number (fun _ S => look [(4, ([0,1,3], I_nu t p q B S)), (63, ([0,1,3,4], I_nu2 t p q B S))]) (by decide) (by decide) kX14_number ⟨_, _, rfl⟩ fX14_ok nX14_ok aX14_ok iX14_ok lX14_ok (fun _ _ _ _ _ _ _ _ _ _ _ _ _ _ _ _ _ _ => no_all) qX14_ok gX14_ok rfl ?_ ?_
  · rintro _ S ⟨rfl, hp⟩
    refine ⟨Nat.le_of_ble_eq_true rfl, 300, ?_⟩
    show (∃ k1, I_nu t p q B S k1 [(0, .inr (.inr (some t))), (1, .inr (.inl (0 : Int64))), (3, .inl (0 : Int32))] [] S 0 0)
    obtain ⟨hM, h1, h2, h3, h4, h5, h6⟩ := hp
    exact ⟨10, 0, 5, p, 0, rfl, rfl, Nat.le_refl _, h5, by decide, fun _ => rfl, (fun e => by cases e), rfl, rfl, (sI_id h3).symm, rfl, rfl⟩
  · intro av S hpre pc I hI k lo st S1 cs sl h
    obtain ⟨rfl, hp⟩ := hpre
    have hm := look_in hI
    simp only [List.mem_cons, List.not_mem_nil, or_false] at hm
    rcases hm with hm | hm
    · cases hm
      obtain ⟨i, j, p1, w, rfl, hij, hp0, hp1, hw, hv1, hv2, rfl, rfl, rfl, rfl, rfl⟩ := h
      refine ⟨300, ?_⟩
      show (((5 : Int32) ≤ (nI i) → (([] : List MV) = [] ∧ mret (some .long) (sp_rnum t F z Y R kz r B p q) [.inr (.inr (some t))] S (some (.inr (.inl (-1 : Int64)))) (sI S 1535 t (nI p1)) 0 0)) ∧ (¬ (5 : Int32) ≤ (nI i) → (isO (sI S 1535 t (nI p1)) 15 t ∧ (isO (sI S 1535 t (nI p1)) 15 t ∧ (((mI (sI S 1535 t (nI p1)) 1535 t) < (mI (sI S 1535 t (nI p1)) 1536 t) → (isO (sI S 1535 t (nI p1)) 15 t ∧ (isO (sI S 1535 t (nI p1)) 15 t ∧ (pa (mR (sI S 1535 t (nI p1)) 1534 t) fun a_1 => (isO (sI S 1535 t (nI p1)) 16 a_1 ∨ isO (sI S 1535 t (nI p1)) 20 a_1) ∧ inR (sI S 1535 t (nI p1)) a_1 (mI (sI S 1535 t (nI p1)) 1535 t) ∧ (isO (sI S 1535 t (nI p1)) 15 t ∧ (True ∧ (isO (sI S 1535 t (nI p1)) 15 t ∧ (∃ k1, k1 < (2 * j) ∧ I_nu2 t p q B S k1 [(0, .inr (.inr (some t))), (1, .inr (.inl ((lN w) ||| (((((eI (sI S 1535 t (nI p1)) a_1 (mI (sI S 1535 t (nI p1)) 1535 t).toNatClampNeg) &&& (255 : Int32)) &&& (127 : Int32)).toInt64) <<< (((7 : Int32) * (nI i)).toInt64 &&& 63))))), (3, .inl (nI i)), (4, .inl ((eI (sI S 1535 t (nI p1)) a_1 (mI (sI S 1535 t (nI p1)) 1535 t).toNatClampNeg) &&& (255 : Int32)))] [] (sI (sI S 1535 t (nI p1)) 1535 t ((mI (sI S 1535 t (nI p1)) 1535 t) + (1 : Int32))) 0 0)))))))) ∧ (¬ (mI (sI S 1535 t (nI p1)) 1535 t) < (mI (sI S 1535 t (nI p1)) 1536 t) → (([] : List MV) = [] ∧ mret (some .long) (sp_rnum t F z Y R kz r B p q) [.inr (.inr (some t))] S (some (.inr (.inl (-1 : Int64)))) (sI S 1535 t (nI p1)) 0 0)))))))
      obtain ⟨hM, h1, h2, h3, h4, h5, h6⟩ := hp
      have e1 : mI (sI S 1535 t (nI p1)) 1535 t = nI p1 := by rw [mI_sI, if_pos ⟨rfl, rfl⟩]
      have e2 : mI (sI S 1535 t (nI p1)) 1536 t = nI q := by rw [mI_sI, if_neg (fun e => absurd e.1 (by decide))]; exact h4
      have e3 : eI (sI S 1535 t (nI p1)) r = eI S r := rfl
      have hB8 := h2.2.2.1
      have hend : (vint B q p).1 = none → (([] : List MV) = [] ∧ mret (some .long) (sp_rnum t F z Y R kz r B p q) [.inr (.inr (some t))] S (some (.inr (.inl (-1 : Int64)))) (sI S 1535 t (nI p1)) 0 0) := fun e => ⟨rfl, trivial, ⟨by rw [e]; rfl, p1, hp0, hp1, rfl, fun n e9 => by rw [e] at e9; cases e9⟩, Nat.le_refl _, Nat.le_refl _⟩
      rw [e1, e2]
      refine if_le (a := 5) (by decide) (by omega) (fun w5 => hend (hv2 (by omega))) (fun w5 => ⟨(hM 0).1, (hM 0).1, if_lt (by omega) (by omega) (fun w6 => ⟨(hM 0).1, (hM 0).1, pa_i h1 ⟨Or.inl h2.1, inRl (by have := h2.2.1; show p1 < mN S r; omega) (by omega), (hM 0).1, trivial, (hM 0).1, ?_⟩⟩) (fun w6 => hend ?_)⟩)
      · have hbl := getD_lt h2.2.2.2.1 p1
        obtain ⟨j, rfl⟩ : ∃ j', j = j' + 1 := ⟨j - 1, by omega⟩
        rw [e3, nI_clamp (by omega), h2.2.2.2.2 p1 (by omega), nI_1, sI_sI, (shvL hbl (by omega) hw).1]
        refine ⟨2 * j + 1, by omega, i, j, p1 + 1, w, B.getD p1 0, rfl, by omega, by omega, w6, hw, hbl, ?_, rfl, rfl, rfl, rfl, rfl⟩
        rw [hv1 (by omega), vrd, if_pos w6]
      · obtain ⟨j, rfl⟩ : ∃ j', j = j' + 1 := ⟨j - 1, by omega⟩
        rw [hv1 (by omega), vrd, if_neg (by omega)]
    · cases hm
      obtain ⟨i, j, p1, w0, x, rfl, hij, hp0, hp1, hw, hx, hv, rfl, rfl, rfl, rfl, rfl⟩ := h
      refine ⟨300, ?_⟩
      show (((128 : Int32) ≤ (nI x) → (∃ k1, k1 < (2 * j + 1) ∧ I_nu t p q B S k1 [(0, .inr (.inr (some t))), (1, .inr (.inl (lN (w0 + (x % 128) * 2 ^ (7 * i))))), (3, .inl ((nI i) + (1 : Int32)))] [] (sI S 1535 t (nI p1)) 0 0)) ∧ (¬ (128 : Int32) ≤ (nI x) → (((nI i) ≤ 0 → (((lg_cmp (lN (w0 + (x % 128) * 2 ^ (7 * i))) (2147483647 : Int64)) ≤ 0 → (([] : List MV) = [] ∧ mret (some .long) (sp_rnum t F z Y R kz r B p q) [.inr (.inr (some t))] S (some (.inr (.inl (lN (w0 + (x % 128) * 2 ^ (7 * i)))))) (sI S 1535 t (nI p1)) 0 0)) ∧ (¬ (lg_cmp (lN (w0 + (x % 128) * 2 ^ (7 * i))) (2147483647 : Int64)) ≤ 0 → (([] : List MV) = [] ∧ mret (some .long) (sp_rnum t F z Y R kz r B p q) [.inr (.inr (some t))] S (some (.inr (.inl (-1 : Int64)))) (sI S 1535 t (nI p1)) 0 0)))) ∧ (¬ (nI i) ≤ 0 → (((nI x) = 0 → (([] : List MV) = [] ∧ mret (some .long) (sp_rnum t F z Y R kz r B p q) [.inr (.inr (some t))] S (some (.inr (.inl (-1 : Int64)))) (sI S 1535 t (nI p1)) 0 0)) ∧ (¬ (nI x) = 0 → (((lg_cmp (lN (w0 + (x % 128) * 2 ^ (7 * i))) (2147483647 : Int64)) ≤ 0 → (([] : List MV) = [] ∧ mret (some .long) (sp_rnum t F z Y R kz r B p q) [.inr (.inr (some t))] S (some (.inr (.inl (lN (w0 + (x % 128) * 2 ^ (7 * i)))))) (sI S 1535 t (nI p1)) 0 0)) ∧ (¬ (lg_cmp (lN (w0 + (x % 128) * 2 ^ (7 * i))) (2147483647 : Int64)) ≤ 0 → (([] : List MV) = [] ∧ mret (some .long) (sp_rnum t F z Y R kz r B p q) [.inr (.inr (some t))] S (some (.inr (.inl (-1 : Int64)))) (sI S 1535 t (nI p1)) 0 0)))))))))
      obtain ⟨-, hl1, hl2⟩ := shvL hx (show i ≤ 4 by omega) hw
      have hend : (vint B q p).1 = none → (([] : List MV) = [] ∧ mret (some .long) (sp_rnum t F z Y R kz r B p q) [.inr (.inr (some t))] S (some (.inr (.inl (-1 : Int64)))) (sI S 1535 t (nI p1)) 0 0) := fun e => ⟨rfl, trivial, ⟨by rw [e]; rfl, p1, hp0, hp1, rfl, fun n e9 => by rw [e] at e9; cases e9⟩, Nat.le_refl _, Nat.le_refl _⟩
      have hgo : ∀ w, vint B q p = (some w, p1) → (([] : List MV) = [] ∧ mret (some .long) (sp_rnum t F z Y R kz r B p q) [.inr (.inr (some t))] S (some (.inr (.inl (lN w)))) (sI S 1535 t (nI p1)) 0 0) := fun w e => ⟨rfl, trivial, ⟨by rw [e]; rfl, p1, hp0, hp1, rfl, fun n e9 => by rw [e]⟩, Nat.le_refl _, Nat.le_refl _⟩
      refine if_le (a := 128) (by decide) (by omega) (fun w1 => ?_) (fun w1 => ?_)
      · refine ⟨2 * j, by omega, i + 1, j, p1, _, rfl, by omega, hp0, hp1, hl1, fun h9 => ?_, fun h9 => ?_, by rw [nI_1], rfl, rfl, rfl, rfl⟩
        · rw [hv, if_neg (fun q9 => by omega), if_pos w1, show x - 128 = x % 128 by omega]
        · rw [hv, if_pos ⟨by omega, by omega⟩]
      · have hx1 : x % 128 = x := Nat.mod_eq_of_lt w1
        rw [hx1] at hl1 hl2 ⊢
        rw [if_neg (show ¬ 128 ≤ x by omega)] at hv
        have hc := lgc (a := w0 + x * 2 ^ (7 * i)) (b := 2147483647) (by omega) (by decide)
        have hle : lg_cmp (lN (w0 + x * 2 ^ (7 * i))) 2147483647 ≤ 0 ↔ w0 + x * 2 ^ (7 * i) ≤ 2147483647 := by
          rw [← Int32.not_lt, show (2147483647 : Int64) = lN 2147483647 from rfl, hc.1]; omega
        have hlt : w0 + x * 2 ^ (7 * i) ≤ 2147483647 ↔ ¬ (i = 4 ∧ 7 < x) := by
          constructor
          · rintro h9 ⟨rfl, h8⟩
            have : 8 * 2 ^ (7 * 4) ≤ x * 2 ^ (7 * 4) := Nat.mul_le_mul_right _ h8
            omega
          · intro h9
            by_cases c : i = 4
            · subst c
              have h8 : x ≤ 7 := by omega
              have : x * 2 ^ (7 * 4) ≤ 7 * 2 ^ (7 * 4) := Nat.mul_le_mul_right _ h8
              omega
            · have : (2 : Nat) ^ (7 * (i + 1)) ≤ 2 ^ 28 := Nat.pow_le_pow_right (by decide) (by omega)
              omega
        have fin : ¬ (x = 0 ∧ 0 < i) → ((lg_cmp (lN (w0 + x * 2 ^ (7 * i))) 2147483647 ≤ 0 → (([] : List MV) = [] ∧ mret (some .long) (sp_rnum t F z Y R kz r B p q) [.inr (.inr (some t))] S (some (.inr (.inl (lN (w0 + x * 2 ^ (7 * i)))))) (sI S 1535 t (nI p1)) 0 0)) ∧ (¬ lg_cmp (lN (w0 + x * 2 ^ (7 * i))) 2147483647 ≤ 0 → (([] : List MV) = [] ∧ mret (some .long) (sp_rnum t F z Y R kz r B p q) [.inr (.inr (some t))] S (some (.inr (.inl (-1 : Int64)))) (sI S 1535 t (nI p1)) 0 0))) := fun h9 => by
          refine ⟨fun q9 => hgo _ ?_, fun q9 => hend ?_⟩
          · rw [hv, if_neg (hlt.1 (hle.1 q9)), if_neg h9]
          · have : i = 4 ∧ 7 < x := Classical.byContradiction (fun w => q9 (hle.2 (hlt.2 w)))
            rw [hv, if_pos this]
        refine if_le (b := 0) (by omega) (by decide) (fun w2 => fin (by omega)) (fun w2 => if_eq (b := 0) (by omega) (by decide) (fun w3 => hend ?_) (fun w3 => fin (by omega)))
        rw [hv, if_neg (by omega), if_pos ⟨w3, w2⟩]
theorem u_rnum (l : Launch) : Us l yX14_number cX14_number 5 (some .long) 0 0 15 T_rnum := by
  intro Rc Rs av S cs sl K Kx h
  unfold T_rnum at h
  split at h
  · rename_i t_o
    obtain ⟨t, rfl, h_1⟩ := pa_of h
    obtain ⟨F, z, Y, R, kz, r, B, p, q, hp, hc, hs, hk⟩ := h_1
    refine ⟨(sp_rnum t F z Y R kz r B p q), c_rnum l t F z Y R kz r B p q, fun _ _ h9 => ⟨_, _, h9.1, (h9.2.1 0).1⟩, ⟨rfl, hp⟩, hc, hs, fun v9 S' h8 => by
      obtain ⟨h7, h8⟩ := h8
      cases h7
      exact hk _ h8, fun _ _ q => q.elim⟩
  · exact h.elim
