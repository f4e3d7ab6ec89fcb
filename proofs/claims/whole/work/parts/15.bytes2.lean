/-! ===== Arrays.copyOf over bytes; Bytes.add ===== -/
def tJ7_copyOf_9075b : CD := [(0, .iload_n 1), (1, .aload_n 0), (2, .arraylength), (3, .if_icmp .ne 11), (6, .aload_n 0), (7, .invokevirtual 310), (10, .checkcast 311), (13, .areturn), (14, .iload_n 1), (15, .newarray .byte), (17, .astore_n 2), (18, .aload_n 0), (19, .iconst 0), (20, .aload_n 2), (21, .iconst 0), (22, .aload_n 0), (23, .arraylength), (24, .iload_n 1), (25, .invokestatic 304), (28, .invokestatic 150), (31, .aload_n 2), (32, .areturn)]
set_option maxRecDepth 100000 in
theorem kJ7_copyOf_9075b : chk cJ7_copyOf_9075b tJ7_copyOf_9075b = true := by decide +kernel
/-- a longer or shorter copy of a row of bytes (not of the same length) -/
def sp_copyB : Sp := (fun av S => ∃ a n, av = [.inr (.inr (some a)), .inl n] ∧ isO S 16 a ∧ (∀ j, fits .byte (.int (eI S a j)) = true) ∧ ¬ n < 0 ∧ n.toNatClampNeg ≤ 32768 ∧ mN S a ≤ 32768 ∧ ¬ n.toNatClampNeg = mN S a, fun _ _ => 1, fun av _ => match av with
    | [_, .inl n] => n.toNatClampNeg
    | _ => 0, fun av S r S' => ∀ a n, av = [.inr (.inr (some a)), .inl n] → ∃ q, q ∉ mL S ∧ r = some (.inr (.inr (some q))) ∧ S' = rI (nA S q 16 n.toNatClampNeg) q (va_cpy (eI S a) (fun _ => 0) 0 0 (min (mN S a) n.toNatClampNeg)), fun _ _ _ _ => False)
theorem wJ7_copyOf_9075b_304 : ∀ w ∈ ([.methodLink RJ7 304 Lib.Math.min.name, .static Lib.Math.min.name, .initialized "java/lang/Math", .code Lib.Math.min.name Lib.Math.min.code 2 (some .int)] : List Cond), w ∈ lw_good := List.forall_mem_cons.mpr ⟨mgd 789 (by decide +kernel) (by decide +kernel), List.forall_mem_cons.mpr ⟨mgd 777 (by decide +kernel) (by decide +kernel), List.forall_mem_cons.mpr ⟨mgd 143 (by decide +kernel) (by decide +kernel), List.forall_mem_cons.mpr ⟨mgd 778 (by decide +kernel) (by decide +kernel), fun _ h => absurd h List.not_mem_nil⟩⟩⟩⟩
theorem wJ7_copyOf_9075b_150 : ∀ w ∈ ([.methodLink RJ7 150 arraycopyName, .native arraycopyName, .static arraycopyName, .initialized "java/lang/System"] : List Cond), w ∈ lw_good := List.forall_mem_cons.mpr ⟨mgd 790 (by decide +kernel) (by decide +kernel), List.forall_mem_cons.mpr ⟨mgd 792 (by decide +kernel) (by decide +kernel), List.forall_mem_cons.mpr ⟨mgd 791 (by decide +kernel) (by decide +kernel), List.forall_mem_cons.mpr ⟨mgd 144 (by decide +kernel) (by decide +kernel), fun _ h => absurd h List.not_mem_nil⟩⟩⟩⟩
set_option maxRecDepth 100000 in
theorem c_copyB (l : Launch) : Ct l yJ7_copyOf_9075b cJ7_copyOf_9075b 3 (some (.array .byte)) 1 32 sp_copyB := by
  refine Ct.of (fJ7, nJ7, aJ7, iJ7, lJ7, [(304, 2, 2, 1, Told 1 sp_min), (150, 2, 5, 0, Told 0 sp_acopy)], qJ7, gJ7, []) false tJ7_copyOf_9075b (fun _ _ _ => none) (by decide) (by decide) kJ7_copyOf_9075b ⟨_, _, rfl⟩ fJ7_ok nJ7_ok aJ7_ok iJ7_ok lJ7_ok (fun p e R s m args below meth c Q D cy z r A C hR1 hR2 => List.forall_mem_cons.mpr ⟨cOK_old (cOK_min C wJ7_copyOf_9075b_304 ⟨by rw [hR1]; decide, by rw [hR2]; decide⟩), List.forall_mem_cons.mpr ⟨cOK_old (cOK_acopy C wJ7_copyOf_9075b_150 ⟨by rw [hR1]; decide, by rw [hR2]; decide⟩), fun _ h => absurd h List.not_mem_nil⟩⟩) qJ7_ok gJ7_ok rfl ?_ ?_
  · rintro av S ⟨a, n, rfl, h1, h2, h3, h4, h5, h6⟩
    refine ⟨Nat.le_of_ble_eq_true rfl, 40, ?_⟩
    show (∃ v_1 : Int32, (a ∈ mL S ∧ ¬ mK S a < 16 ∧ mK S a < 29 ∧ v_1 = Int32.ofNat (mN S a) ∨ a = mZ S ∧ v_1 = 0) ∧ ((¬ n = v_1 → (¬ n < 0 ∧ n.toNatClampNeg * 8 ≤ 536870912 ∧ 0 + 1 ≤ 1 ∧ 0 + n.toNatClampNeg ≤ n.toNatClampNeg ∧ ∀ q_2, q_2 ∉ mL S → (∃ v_3 : Int32, (a ∈ mL (nA S q_2 16 n.toNatClampNeg) ∧ ¬ mK (nA S q_2 16 n.toNatClampNeg) a < 16 ∧ mK (nA S q_2 16 n.toNatClampNeg) a < 29 ∧ v_3 = Int32.ofNat (mN (nA S q_2 16 n.toNatClampNeg) a) ∨ a = mZ (nA S q_2 16 n.toNatClampNeg) ∧ v_3 = 0) ∧ (2 = 2 ∧ sp_min.1 [.inl v_3, .inl n] (nA S q_2 16 n.toNatClampNeg) ∧ 0 + 1 ≤ 1 ∧ 0 + n.toNatClampNeg ≤ n.toNatClampNeg ∧ (∀ (x_5 : Int32) (S_4 : MM), sp_min.2.2.2.1 [.inl v_3, .inl n] (nA S q_2 16 n.toNatClampNeg) (some (.inl x_5)) S_4 → (2 = 2 ∧ sp_acopy.1 [.inr (.inr (some a)), .inl (0 : Int32), .inr (.inr (some q_2)), .inl (0 : Int32), .inl x_5] S_4 ∧ 0 + 1 ≤ 1 ∧ 0 + n.toNatClampNeg ≤ n.toNatClampNeg ∧ (∀ (S_8 : MM), sp_acopy.2.2.2.1 [.inr (.inr (some a)), .inl (0 : Int32), .inr (.inr (some q_2)), .inl (0 : Int32), .inl x_5] S_4 none S_8 → (([] : List MV) = [] ∧ mret (some (.array .byte)) sp_copyB [.inr (.inr (some a)), .inl n] S (some (.inr (.inr (some q_2)))) S_8 (0 + 1) (0 + n.toNatClampNeg))) ∧ ∀ (E_11 : Nat) (S_10 : MM), False → False)) ∧ ∀ (E_7 : Nat) (S_6 : MM), False → False)))) ∧ (n = v_1 → False)))
    obtain ⟨k, hk, rfl⟩ := nI_of h3
    rw [nI_clamp hk] at h4 h6 ⊢
    have hr : 0 + k ≤ k := by omega
    refine ⟨_, Or.inl ⟨h1.1, by rw [h1.2]; decide, by rw [h1.2]; decide, rfl⟩, fun _ => ⟨h3, by omega, by decide, hr, fun q hq => ?_⟩, fun he => h6 ((nI_eq hk (by omega)).mp he)⟩
    have g1 : isO (nA S q 16 k) 16 a := isO_nA h1 hq
    have haq : a ≠ q := fun e => hq (e ▸ h1.1)
    refine ⟨_, Or.inl ⟨g1.1, by rw [g1.2]; decide, by rw [g1.2]; decide, rfl⟩, rfl, ⟨_, _, rfl⟩, by decide, hr, fun x S2 hp => ?_, fun _ _ q => q⟩
    obtain ⟨e1, e2⟩ := hp _ _ rfl
    subst e2
    cases e1
    have eN : mN (nA S q 16 k) a = mN S a := by rw [mN_nA, if_neg haq]
    have eq1 : mN (nA S q 16 k) q = k := by rw [mN_nA, if_pos rfl]
    have eI1 : eI (nA S q 16 k) a = eI S a := by rw [eI_nA, if_neg haq]
    have eI2 : eI (nA S q 16 k) q = fun _ => 0 := by rw [eI_nA, if_pos rfl]
    have ex : (if nI k < Int32.ofNat (mN (nA S q 16 k) a) then nI k else Int32.ofNat (mN (nA S q 16 k) a)) = nI (min (mN S a) k) := by
      rw [eN]
      show (if nI k < nI (mN S a) then nI k else nI (mN S a)) = _
      by_cases hlt : k < mN S a
      · rw [if_pos ((nI_ltI hk (by omega)).mpr hlt), Nat.min_eq_right (by omega)]
      · rw [if_neg (fun q => hlt ((nI_ltI hk (by omega)).mp q)), Nat.min_eq_left (by omega)]
    rw [ex]
    have hmin : min (mN S a) k ≤ k := Nat.min_le_right _ _
    have hmin2 : min (mN S a) k ≤ mN S a := Nat.min_le_left _ _
    have hm : (nI (min (mN S a) k)).toNatClampNeg = min (mN S a) k := nI_clamp (by omega)
    refine ⟨rfl, ⟨a, q, 0, 0, _, 16, rfl, g1, isO_nA_self, Or.inr (Or.inr ⟨rfl, fun i _ => by rw [eI1]; exact h2 _⟩), by decide, by decide, nI_pos (by omega), ?_, ?_⟩, by decide, hr, fun S6 hp2 => ?_, fun _ _ q => q⟩
    · rw [hm, eN, show (0 : Int32).toNatClampNeg = 0 from rfl]; omega
    · rw [hm, eq1, show (0 : Int32).toNatClampNeg = 0 from rfl]; omega
    · obtain ⟨-, e3⟩ := hp2 _ _ _ _ _ rfl
      refine ⟨rfl, trivial, fun a' n' e => ?_, (show 0 + 1 ≤ 1 by decide), ?_⟩
      · cases e
        refine ⟨q, hq, rfl, ?_⟩
        rw [e3, hm, eI1, eI2, nI_clamp hk, show (0 : Int32).toNatClampNeg = 0 from rfl]
      · show 0 + k ≤ (nI k).toNatClampNeg
        rw [nI_clamp hk]; omega
  · exact fun _ _ _ _ _ h => by cases h
theorem By.uniq {S : MM} {a d d' : Nat} {B B' : List Nat} (h : By S a d B) (h' : By S a d' B') : B' = B := by
  have e1 := h.row h'
  subst e1
  have e2 := h.size h'
  obtain ⟨-, -, -, -, -, -, -, h8, h9⟩ := h
  obtain ⟨-, -, -, -, -, -, -, g8, g9⟩ := h'
  refine List.ext_getElem e2 (fun j hj hj' => ?_)
  have e3 := (g9 j hj).symm.trans (h9 j hj')
  have a1 : B'.getD j 0 = B'[j] := by simp [List.getD_eq_getElem?_getD, List.getElem?_eq_getElem hj]
  have a2 : B.getD j 0 = B[j] := by simp [List.getD_eq_getElem?_getD, List.getElem?_eq_getElem hj']
  rw [a1, a2] at e3
  have b1 := g8 _ (List.getElem_mem hj)
  have b2 := h8 _ (List.getElem_mem hj')
  exact (nI_eq (by omega) (by omega)).mp e3
theorem Keep.trN {P Q : Nat → Prop} {S S1 S2 : MM} (h1 : Keep P S S1) (h2 : Keep Q S1 S2) (hQ : ∀ b, b ∈ mL S → Q b → P b) : Keep P S S2 := by
  refine ⟨fun b hb => ?_, fun b hb hp => ?_, h2.2.2.1.trans h1.2.2.1, h2.2.2.2.trans h1.2.2.2⟩
  · obtain ⟨a1, a2, a3⟩ := h1.1 b hb
    obtain ⟨b1, b2, b3⟩ := h2.1 b a1
    exact ⟨b1, b2.trans a2, b3.trans a3⟩
  · obtain ⟨a1, a2, a3, a4, a5, a6⟩ := h1.2.1 b hb hp
    obtain ⟨b1, b2, b3, b4, b5, b6⟩ := h2.2.1 b (h1.1 b hb).1 (fun q => hp (hQ b hb q))
    exact ⟨fun i => (b1 i).trans (a1 i), fun i => (b2 i).trans (a2 i), fun i => (b3 i).trans (a3 i), b4.trans a4, b5.trans a5, b6.trans a6⟩
/-- capacity and length of an object of bytes -/
def capOf (S : MM) (a : Nat) : Nat := match mR S 200 a with
  | some d => mN S d
  | none => 0
def lenOf (S : MM) (a : Nat) : Nat := (mI S 201 a).toNatClampNeg
theorem By.cap_of {S : MM} {a d : Nat} {B : List Nat} (h : By S a d B) : capOf S a = mN S d := by
  unfold capOf
  rw [h.2.1]
theorem By.len_of {S : MM} {a d : Nat} {B : List Nat} (h : By S a d B) : lenOf S a = B.length := by
  have := h.len
  show (mI S 201 a).toNatClampNeg = B.length
  rw [h.2.2.2.1, nI_clamp (by omega)]
/-- one byte more, if there is room -/
def bPut (B : List Nat) (v : Int32) : List Nat := if B.length < 32768 then B ++ [b8 v] else B
def addC (S : MM) (a : Nat) : Nat := if lenOf S a = capOf S a ∧ lenOf S a < 32768 then 1 else 0
def addS (S : MM) (a : Nat) : Nat := if lenOf S a = capOf S a ∧ lenOf S a < 32768 then 2 * capOf S a else 0
def sp_add : Sp := (fun av S => ∃ a v d B, av = [.inr (.inr (some a)), .inl v] ∧ By S a d B, fun av S => match av with
    | [.inr (.inr (some a)), _] => addC S a
    | _ => 0, fun av S => match av with
    | [.inr (.inr (some a)), _] => addS S a
    | _ => 0, fun av S r S' => r = none ∧ ∀ a v d B, av = [.inr (.inr (some a)), .inl v] → By S a d B → ∃ d', By S' a d' (bPut B v) ∧ Keep (fun b => b = a ∨ b = d) S S' ∧ (d' = d ∨ d' ∉ mL S) ∧ mI S' 202 a = (if B.length < 32768 then mI S 202 a else 1) ∧ mN S' d' = (if B.length = mN S d ∧ B.length < 32768 then 2 * mN S d else mN S d), fun _ _ _ _ => False)
theorem recv_add : ∀ av S, sp_add.1 av S → ∃ a vs, av = .inr (.inr (some a)) :: vs ∧ isO S 2 a := fun _ _ ⟨a, v, _, _, e, h⟩ => ⟨a, [.inl v], e, h.1⟩
/-- there is room for one byte more -/
def I_add (av : List MV) (S0 : MM) (k : Nat) : KT := fun lo st S1 cs sl => k = 0 ∧ ∃ a v d B, av = [.inr (.inr (some a)), .inl v] ∧ By S0 a d B ∧ B.length < 32768 ∧ lo = [(0, .inr (.inr (some a))), (1, .inl v)] ∧ st = [] ∧ ∃ d1, By S1 a d1 B ∧ B.length < mN S1 d1 ∧ Keep (fun b => b = a ∨ b = d) S0 S1 ∧ (d1 = d ∨ d1 ∉ mL S0) ∧ mI S1 202 a = mI S0 202 a ∧ mN S1 d1 = (if B.length = mN S0 d then 2 * mN S0 d else mN S0 d) ∧ cs = (if B.length = mN S0 d then 1 else 0) ∧ sl = (if B.length = mN S0 d then 2 * mN S0 d else 0)
def tX1_add : CD := [(0, .aload_n 0), (1, .getfield 15), (4, .ldc 23), (6, .if_icmp .lt 9), (9, .aload_n 0), (10, .iconst 1), (11, .putfield 19), (14, .return_), (15, .aload_n 0), (16, .getfield 15), (19, .aload_n 0), (20, .getfield 9), (23, .arraylength), (24, .if_icmp .ne 25), (27, .aload_n 0), (28, .aload_n 0), (29, .getfield 9), (32, .ldc 23), (34, .iconst 2), (35, .aload_n 0), (36, .getfield 15), (39, .imul), (40, .invokestatic 24), (43, .invokestatic 30), (46, .putfield 9), (49, .aload_n 0), (50, .getfield 9), (53, .aload_n 0), (54, .getfield 15), (57, .iload_n 1), (58, .i2b), (59, .bastore), (60, .aload_n 0), (61, .dup), (62, .getfield 15), (65, .iconst 1), (66, .iadd), (67, .putfield 15), (70, .return_)]
set_option maxRecDepth 100000 in
theorem kX1_add : chk cX1_add tX1_add = true := by decide +kernel
theorem wX1_add_24 : ∀ w ∈ ([.methodLink RX1 24 Lib.Math.min.name, .static Lib.Math.min.name, .initialized "java/lang/Math", .code Lib.Math.min.name Lib.Math.min.code 2 (some .int)] : List Cond), w ∈ lw_good := List.forall_mem_cons.mpr ⟨mgd 776 (by decide +kernel) (by decide +kernel), List.forall_mem_cons.mpr ⟨mgd 777 (by decide +kernel) (by decide +kernel), List.forall_mem_cons.mpr ⟨mgd 143 (by decide +kernel) (by decide +kernel), List.forall_mem_cons.mpr ⟨mgd 778 (by decide +kernel) (by decide +kernel), fun _ h => absurd h List.not_mem_nil⟩⟩⟩⟩
theorem wX1_add_30 : ∀ w ∈ ([.methodLink RX1 30 yJ7_copyOf_9075b, .static yJ7_copyOf_9075b, .initialized yJ7_copyOf_9075b.cls, .code yJ7_copyOf_9075b cJ7_copyOf_9075b 3 (some (.array .byte))] : List Cond), w ∈ lw_good := List.forall_mem_cons.mpr ⟨mgd 779 (by decide +kernel) (by decide +kernel), List.forall_mem_cons.mpr ⟨mgd 780 (by decide +kernel) (by decide +kernel), List.forall_mem_cons.mpr ⟨mgd 135 (by decide +kernel) (by decide +kernel), List.forall_mem_cons.mpr ⟨mgd 781 (by decide +kernel) (by decide +kernel), fun _ h => absurd h List.not_mem_nil⟩⟩⟩⟩
set_option maxRecDepth 100000 in
set_option maxHeartbeats 1000000 in
theorem c_X1_add (l : Launch) : Ct l yX1_add cX1_add 2 none 2 54 sp_add := by
  have c_copyB_l := c_copyB l
  refine Ct.of (fX1, nX1, aX1, iX1, lX1, [(24, 2, 2, 1, Told 1 sp_min), (30, 2, 2, 3, Told 3 sp_copyB)], qX1, gX1, []) false tX1_add (fun av S => look [(49, ([0, 1], I_add av S))]) (by decide) (by decide) kX1_add ⟨_, _, rfl⟩ fX1_ok nX1_ok aX1_ok iX1_ok lX1_ok (fun p e R s m args below meth c Q D cy z r A C hR1 hR2 => List.forall_mem_cons.mpr ⟨cOK_old (cOK_min C wX1_add_24 ⟨by rw [hR1]; decide, by rw [hR2]; decide⟩), List.forall_mem_cons.mpr ⟨cOK_old (cOK_S C (c_copyB_l) wX1_add_30 ⟨by decide, by decide, by decide +kernel⟩ ⟨by rw [hR1]; decide, by rw [hR2]; decide⟩), fun _ h => absurd h List.not_mem_nil⟩⟩) qX1_ok gX1_ok rfl ?_ ?_
  · rintro av S ⟨a, v, d, B, rfl, hB⟩
    refine ⟨Nat.le_of_ble_eq_true rfl, 60, ?_⟩
    show (isO S 2 a ∧ (((mI S 201 a) < (32768 : Int32) → (isO S 2 a ∧ (isO S 2 a ∧ (pa (mR S 200 a) fun a_1 => ∃ v_2 : Int32, (a_1 ∈ mL S ∧ ¬ mK S a_1 < 16 ∧ mK S a_1 < 29 ∧ v_2 = Int32.ofNat (mN S a_1) ∨ a_1 = mZ S ∧ v_2 = 0) ∧ ((¬ (mI S 201 a) = v_2 → (∃ k1, I_add [.inr (.inr (some a)), .inl v] S k1 [(0, .inr (.inr (some a))), (1, .inl v)] [] S 0 0)) ∧ ((mI S 201 a) = v_2 → (isO S 2 a ∧ (isO S 2 a ∧ (2 = 2 ∧ sp_min.1 [.inl (32768 : Int32), .inl ((2 : Int32) * (mI S 201 a))] S ∧ 0 ≤ addC S a ∧ 0 ≤ addS S a ∧ (∀ (x_4 : Int32) (S_3 : MM), sp_min.2.2.2.1 [.inl (32768 : Int32), .inl ((2 : Int32) * (mI S 201 a))] S (some (.inl x_4)) S_3 → (2 = 2 ∧ sp_copyB.1 [.inr (.inr (mR S 200 a)), .inl x_4] S_3 ∧ 0 + sp_copyB.2.1 [.inr (.inr (mR S 200 a)), .inl x_4] S_3 ≤ addC S a ∧ 0 + sp_copyB.2.2.1 [.inr (.inr (mR S 200 a)), .inl x_4] S_3 ≤ addS S a ∧ (∀ (x_8 : Option Nat) (S_7 : MM), sp_copyB.2.2.2.1 [.inr (.inr (mR S 200 a)), .inl x_4] S_3 (some (.inr (.inr x_8))) S_7 → (True ∧ (isO S_7 2 a ∧ (∃ k1, I_add [.inr (.inr (some a)), .inl v] S k1 [(0, .inr (.inr (some a))), (1, .inl v)] [] (sR S_7 200 a x_8) (0 + sp_copyB.2.1 [.inr (.inr (mR S 200 a)), .inl x_4] S_3) (0 + sp_copyB.2.2.1 [.inr (.inr (mR S 200 a)), .inl x_4] S_3))))) ∧ ∀ (E_10 : Nat) (S_9 : MM), sp_copyB.2.2.2.2 [.inr (.inr (mR S 200 a)), .inl x_4] S_3 E_10 S_9 → False)) ∧ ∀ (E_6 : Nat) (S_5 : MM), False → False))))))))) ∧ (¬ (mI S 201 a) < (32768 : Int32) → (True ∧ (isO S 2 a ∧ ((1 : Int32) = 0 ∨ (1 : Int32) = 1) ∧ (([] : List MV) = [] ∧ mret none sp_add [.inr (.inr (some a)), .inl v] S none (sI S 202 a (1 : Int32)) 0 0))))))
    have hcap := hB.cap
    have hlen := hB.len
    obtain ⟨h1, h2, h3, h4, h5, h6, h7, h8, h9⟩ := id hB
    have hda : d ≠ a := isO_ne h3 h1 (by decide)
    refine ⟨h1, fun hlt => ⟨h1, h1, pa_i h2 ⟨_, Or.inl ⟨h3.1, by rw [h3.2]; decide, by rw [h3.2]; decide, rfl⟩, fun hne => ?_, fun heq => ⟨h1, h1, rfl, ⟨_, _, rfl⟩, Nat.zero_le _, Nat.zero_le _, fun x S3 hp => ?_, fun _ _ q => q⟩⟩⟩, fun hge => ⟨trivial, h1, Or.inr rfl, rfl, ?_⟩⟩
    · rw [h4] at hlt hne
      have hl : B.length < 32768 := (nI_ltI (by omega) (by decide)).mp hlt
      have hn : ¬ B.length = mN S d := fun q => hne (by rw [q]; rfl)
      exact ⟨0, rfl, a, v, d, B, rfl, hB, hl, rfl, rfl, d, hB, by omega, Keep.rf, Or.inl rfl, rfl, by rw [if_neg hn], by rw [if_neg hn], by rw [if_neg hn]⟩
    · rw [h4] at hlt heq
      have hl : B.length < 32768 := (nI_ltI (by omega) (by decide)).mp hlt
      have hn : B.length = mN S d := (nI_eq (by omega) (by omega)).mp heq
      obtain ⟨e1, e2⟩ := hp _ _ rfl
      subst e2
      cases e1
      have hC : addC S3 a = 1 := by rw [addC, hB.len_of, hB.cap_of, if_pos ⟨hn, hl⟩]
      have hS : addS S3 a = 2 * mN S3 d := by rw [addS, hB.len_of, hB.cap_of, if_pos ⟨hn, hl⟩]
      obtain ⟨k, hk, ek⟩ := h6
      have hk8 : k ≤ 8 := by
        rcases Nat.lt_or_ge k 9 with q | q
        · omega
        · have : k = 9 := by omega
          subst this
          omega
      have hp2 : 2 ^ k ≤ 2 ^ 8 := Nat.pow_le_pow_right (by decide) hk8
      have e3 : (2 : Int32) * mI S3 201 a = nI (2 * mN S3 d) := by
        rw [h4, hn]
        exact pk_mul 2 (mN S3 d)
      have e4 : (if (2 : Int32) * mI S3 201 a < 32768 then (2 : Int32) * mI S3 201 a else 32768) = nI (2 * mN S3 d) := by
        rw [e3]
        show (if nI (2 * mN S3 d) < nI 32768 then nI (2 * mN S3 d) else nI 32768) = nI (2 * mN S3 d)
        by_cases q : 2 * mN S3 d < 32768
        · rw [if_pos ((nI_ltI (by omega) (b := 32768) (by decide)).mpr q)]
        · rw [if_neg (fun z => q ((nI_ltI (by omega) (b := 32768) (by decide)).mp z)), show 2 * mN S3 d = 32768 by omega]
      rw [e4, h2, hC, hS]
      have hcl : (nI (2 * mN S3 d)).toNatClampNeg = 2 * mN S3 d := nI_clamp (by omega)
      refine ⟨rfl, ⟨d, _, rfl, h3, h7, nI_pos (by omega), by rw [hcl]; omega, hcap.2, by rw [hcl]; omega⟩, (show 0 + 1 ≤ 1 by decide), ?_, fun x8 S7 hp7 => ?_, fun _ _ q => q⟩
      · show 0 + (nI (2 * mN S3 d)).toNatClampNeg ≤ _
        rw [hcl]; omega
      · obtain ⟨q, hq, e5, e6⟩ := hp7 _ _ rfl
        cases e5
        rw [hcl, Nat.min_eq_left (by omega)] at e6
        have hqa : q ≠ a := fun e => hq (e ▸ h1.1)
        have hqd : q ≠ d := fun e => hq (e ▸ h3.1)
        have hKp : Keep (fun b => b = a ∨ b = d) S3 (sR S7 200 a (some q)) := by
          rw [e6]
          refine Keep.sR ?_ (Or.inl rfl)
          refine ⟨fun b hb => ⟨List.mem_append_left _ hb, va_up_ne _ _ (fun (e : b = q) => hq (e ▸ hb)), va_up_ne _ _ (fun (e : b = q) => hq (e ▸ hb))⟩, fun b hb _ => ?_, rfl, rfl⟩
          have hbq : b ≠ q := fun e => hq (e ▸ hb)
          exact ⟨fun _ => rfl, fun _ => rfl, fun _ => rfl, by rw [eI_rI, if_neg hbq, eI_nA, if_neg hbq], by show va_up _ _ _ b = _; rw [va_up_ne _ _ hbq], by show va_up _ _ _ b = _; rw [va_up_ne _ _ hbq]⟩
        have g1 : isO (sR S7 200 a (some q)) 2 a := hKp.isO h1
        have eN : mN (sR S7 200 a (some q)) q = 2 * mN S3 d := by rw [e6, mN_sR, mN_rI, mN_nA, if_pos rfl]
        have eE : eI (sR S7 200 a (some q)) q = va_cpy (eI S3 d) (fun _ => 0) 0 0 (mN S3 d) := by rw [e6, eI_sR, eI_rI, if_pos rfl]
        have hBy : By (sR S7 200 a (some q)) a q B := by
          refine ⟨g1, by rw [mR_sR, if_pos ⟨rfl, rfl⟩], ⟨?_, ?_⟩, ?_, by rw [eN]; omega, ⟨k + 1, by omega, by rw [eN, ek, Nat.pow_succ]; omega⟩, fun j => by rw [eE]; exact sb_fitC h7 sb_fit0 j, h8, fun j hj => ?_⟩
          · rw [e6]; exact List.mem_append_right _ (List.mem_singleton.mpr rfl)
          · rw [e6]; exact va_up_self _ _ _
          · rw [e6]; exact h4
          · rw [eE, sb_cpy0 (by omega)]; exact h9 j hj
        refine ⟨trivial, ?_, 0, rfl, a, v, d, B, rfl, hB, hl, rfl, rfl, q, hBy, by rw [eN]; omega, hKp, Or.inr hq, by rw [e6]; rfl, by rw [eN, if_pos hn], by rw [if_pos hn]; rfl, ?_⟩
        · rw [e6]; exact isO_nA (n := 2 * mN S3 d) h1 hq
        · rw [if_pos hn]
          show 0 + (nI (2 * mN S3 d)).toNatClampNeg = _
          rw [hcl]; omega
    · rw [h4] at hge
      have hl : ¬ B.length < 32768 := fun q => hge ((nI_ltI (by omega) (by decide)).mpr q)
      refine ⟨trivial, ⟨rfl, fun a' v' d' B' e hB' => ?_⟩, Nat.zero_le _, Nat.zero_le _⟩
      cases e
      have e1 := hB.row hB'
      subst e1
      have e2 := hB.size hB'
      refine ⟨d', ?_, Keep.rf.sI (Or.inl rfl), Or.inl rfl, ?_, ?_⟩
      · rw [bPut, if_neg (by omega)]
        obtain ⟨k1, k2, k3, k4, k5, k6, k7, k8, k9⟩ := hB'
        exact ⟨k1, k2, k3, by rw [mI_sI, if_neg (fun q => absurd q.1 (by decide))]; exact k4, k5, k6, k7, k8, k9⟩
      · rw [mI_sI, if_pos ⟨rfl, rfl⟩, if_neg (by omega)]
      · rw [if_neg (fun q => by omega)]; rfl
  · intro av S hpre pc I hI k lo st S1 cs sl h
    have hm := look_in hI
    rw [List.mem_singleton] at hm
    cases hm
    obtain ⟨rfl, a, v, d, B, rfl, hB, hl, rfl, rfl, d1, hB1, hr, hK, hd1, hsp, hN, rfl, rfl⟩ := h
    refine ⟨30, ?_⟩
    show (isO S1 2 a ∧ (isO S1 2 a ∧ (pa (mR S1 200 a) fun a_1 => ((isO S1 16 a_1 ∧ inR S1 a_1 (mI S1 201 a) ∧ (isO (rI S1 a_1 (upd (eI S1 a_1) (mI S1 201 a).toNatClampNeg v.toInt8.toInt32.toInt8.toInt32)) 2 a ∧ (True ∧ (isO (rI S1 a_1 (upd (eI S1 a_1) (mI S1 201 a).toNatClampNeg v.toInt8.toInt32.toInt8.toInt32)) 2 a ∧ (([] : List MV) = [] ∧ mret none sp_add [.inr (.inr (some a)), .inl v] S none (sI (rI S1 a_1 (upd (eI S1 a_1) (mI S1 201 a).toNatClampNeg v.toInt8.toInt32.toInt8.toInt32)) 201 a ((mI (rI S1 a_1 (upd (eI S1 a_1) (mI S1 201 a).toNatClampNeg v.toInt8.toInt32.toInt8.toInt32)) 201 a) + (1 : Int32))) (if B.length = mN S d then 1 else 0) (if B.length = mN S d then 2 * mN S d else 0)))))) ∨ (isO S1 20 a_1 ∧ inR S1 a_1 (mI S1 201 a) ∧ (isO (rI S1 a_1 (upd (eI S1 a_1) (mI S1 201 a).toNatClampNeg (vp_nar .boolean v.toInt8.toInt32))) 2 a ∧ (True ∧ (isO (rI S1 a_1 (upd (eI S1 a_1) (mI S1 201 a).toNatClampNeg (vp_nar .boolean v.toInt8.toInt32))) 2 a ∧ (([] : List MV) = [] ∧ mret none sp_add [.inr (.inr (some a)), .inl v] S none (sI (rI S1 a_1 (upd (eI S1 a_1) (mI S1 201 a).toNatClampNeg (vp_nar .boolean v.toInt8.toInt32))) 201 a ((mI (rI S1 a_1 (upd (eI S1 a_1) (mI S1 201 a).toNatClampNeg (vp_nar .boolean v.toInt8.toInt32))) 201 a) + (1 : Int32))) (if B.length = mN S d then 1 else 0) (if B.length = mN S d then 2 * mN S d else 0))))))))))
    have hcap1 := hB1.cap
    obtain ⟨h1, h2, h3, h4, h5, h6, h7, h8, h9⟩ := id hB1
    have hda : a ≠ d1 := isO_ne h1 h3 (by decide)
    have hcl : (mI S1 201 a).toNatClampNeg = B.length := by rw [h4, nI_clamp (by omega)]
    refine ⟨h1, h1, pa_i h2 (Or.inl ⟨h3, ?_, h1, trivial, h1, rfl, trivial, ⟨rfl, fun a' v' d' B' e hB' => ?_⟩, ?_, ?_⟩)⟩
    · rw [h4]; exact vp_in_nI hr (by omega)
    · cases e
      have e1 := hB.uniq hB'
      subst e1
      have e2 := hB.row hB'
      subst e2
      rw [hcl]
      have eI0 : mI (rI S1 d1 (upd (eI S1 d1) B'.length v.toInt8.toInt32.toInt8.toInt32)) 201 a + 1 = nI (B'.length + 1) := by
        rw [mI_rI, h4]
        exact nI_1 _
      rw [eI0]
      refine ⟨d1, ?_, hK.trN (((Keep.rf (P := fun b => b = a ∨ b = d1)).rI (Or.inr rfl)).sI (Or.inl rfl)) (fun b hb hq => hq.elim Or.inl (fun e => hd1.elim (fun e2 => Or.inr (e.trans e2)) (fun hn => absurd (e ▸ hb) hn))), hd1, ?_, ?_⟩
      · rw [bPut, if_pos hl]
        refine ⟨h1, h2, h3, by rw [mI_sI, if_pos ⟨rfl, rfl⟩, List.length_append]; rfl, by rw [List.length_append]; exact hr, h6, fun j => ?_, fun b hb => ?_, fun j hj => ?_⟩
        · rw [eI_sI, eI_rI, if_pos rfl]
          exact sb_fitU h7 (pk_fb _) j
        · rcases List.mem_append.mp hb with q | q
          · exact h8 b q
          · rw [List.mem_singleton.mp q]
            exact b8_lt v
        · rw [eI_sI, eI_rI, if_pos rfl]
          rw [List.length_append, List.length_singleton] at hj
          rcases Nat.lt_or_ge j B'.length with q | q
          · rw [pk_un (by omega), h9 j q]
            congr 1
            simp [List.getD_eq_getElem?_getD, List.getElem?_append_left q]
          · have : j = B'.length := by omega
            subst this
            rw [pk_us, b8_st]
            congr 1
            simp [List.getD_eq_getElem?_getD]
      · rw [if_pos hl, ← hsp]
        simp [mL_sI, mL_sR, mL_sJ, mL_rI, mL_rJ, mL_rR, mK_sI, mK_sR, mK_sJ, mK_rI, mK_rJ, mK_rR, mI_sR, mI_sJ, mI_rI, mI_rJ, mI_rR, mR_sI, mR_sJ, mR_rI, mR_rJ, mR_rR, mJ_sI, mJ_sR, mJ_rI, mJ_rJ, mJ_rR, mN_sI, mN_sR, mN_sJ, mN_rI, mN_rJ, mN_rR, eI_sI, eI_sR, eI_sJ, eI_rJ, eI_rR, eJ_sI, eJ_sR, eJ_sJ, eJ_rI, eJ_rR, eR_sI, eR_sR, eR_sJ, eR_rI, eR_rJ, mZ_sI, mZ_sR, mZ_sJ, mZ_rI, mZ_rJ, mZ_rR, mQ_sI, mQ_sR, mQ_sJ, mQ_rI, mQ_rJ, mQ_rR, mI_nA, mR_nA, mJ_nA, mZ_nA, mQ_nA, mN_nO, eI_nO, eJ_nO, eR_nO, mZ_nO, mQ_nO, mI_sI, mR_sR, mJ_sJ, eI_rI, eR_rR, eJ_rJ, eI_nA, mN_nA, mK_nA, mK_nO, mI_nO, mR_nO]
      · show mN S1 d1 = _
        rw [hN]
        by_cases q : B'.length = mN S d'
        · rw [if_pos q, if_pos ⟨q, hl⟩]
        · rw [if_neg q, if_neg (fun z => q z.1)]
    · show _ ≤ addC S a
      rw [addC, hB.len_of, hB.cap_of]
      by_cases q : B.length = mN S d
      · rw [if_pos q, if_pos ⟨q, hl⟩]; exact Nat.le_refl _
      · rw [if_neg q]; exact Nat.zero_le _
    · show _ ≤ addS S a
      rw [addS, hB.len_of, hB.cap_of]
      by_cases q : B.length = mN S d
      · rw [if_pos q, if_pos ⟨q, hl⟩]; exact Nat.le_refl _
      · rw [if_neg q]; exact Nat.zero_le _
