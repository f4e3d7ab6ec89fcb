/-! ===== WeaveText$Bytes ===== -/
theorem bp_b (x : Int32) : x.toInt8.toInt32 &&& 255 = x &&& 255 := by
  apply Int32.toBitVec_inj.mp
  rw [Int32.toBitVec_and, Int32.toBitVec_and, Int8.toBitVec_toInt32, Int32.toBitVec_toInt8]
  apply BitVec.eq_of_getLsbD_eq
  intro i hi
  rw [BitVec.getLsbD_and, BitVec.getLsbD_and]
  have hm : ∀ i < 32, 8 ≤ i → (255 : Int32).toBitVec.getLsbD i = false := by decide
  rcases Nat.lt_or_ge i 8 with z | z
  · rw [BitVec.getLsbD_signExtend, BitVec.getLsbD_signExtend, if_pos z, if_pos hi]
    simp only [z, hi, decide_true, Bool.true_and]
  · rw [hm i hi z]; simp
/-- the byte of a number -/
def b8 (v : Int32) : Nat := v.toBitVec.toNat % 256
theorem b8_lt (v : Int32) : b8 v < 256 := Nat.mod_lt _ (by decide)
theorem b8_and (v : Int32) : v &&& 255 = nI (b8 v) := pk_and v 8 (by decide)
theorem b8_st (v : Int32) : v.toInt8.toInt32.toInt8.toInt32 &&& 255 = nI (b8 v) := by rw [bp_b, bp_b, b8_and]
/-- the object a with its row d holds the bytes B -/
def By (S : MM) (a d : Nat) (B : List Nat) : Prop := isO S 2 a ∧ mR S 200 a = some d ∧ isO S 16 d ∧ mI S 201 a = nI B.length ∧ B.length ≤ mN S d ∧ (∃ k, k ≤ 9 ∧ mN S d = 64 * 2 ^ k) ∧ (∀ j, fits .byte (.int (eI S d j)) = true) ∧ (∀ b ∈ B, b < 256) ∧ ∀ j, j < B.length → eI S d j &&& 255 = nI (B.getD j 0)
theorem By.cap {S : MM} {a d : Nat} {B : List Nat} (h : By S a d B) : 64 ≤ mN S d ∧ mN S d ≤ 32768 := by
  obtain ⟨-, -, -, -, -, ⟨k, hk, e⟩, -⟩ := h
  rw [e]
  have h1 : 1 ≤ 2 ^ k := Nat.one_le_two_pow
  have h2 : 2 ^ k ≤ 2 ^ 9 := Nat.pow_le_pow_right (by decide) hk
  omega
theorem By.len {S : MM} {a d : Nat} {B : List Nat} (h : By S a d B) : B.length ≤ 32768 := Nat.le_trans h.2.2.2.2.1 h.cap.2
/-- an object holds one list of bytes, in one row -/
theorem By.row {S : MM} {a d d' : Nat} {B B' : List Nat} (h : By S a d B) (h' : By S a d' B') : d' = d := Option.some.inj (h'.2.1.symm.trans h.2.1)
theorem By.size {S : MM} {a d d' : Nat} {B B' : List Nat} (h : By S a d B) (h' : By S a d' B') : B'.length = B.length := (nI_eq (by have := h'.len; omega) (by have := h.len; omega)).mp (h'.2.2.2.1.symm.trans h.2.2.2.1)
/-- what stays of an object that nothing wrote -/
theorem By.keep {P : Nat → Prop} {S S' : MM} {a d : Nat} {B : List Nat} (h : By S a d B) (hk : Keep P S S') (ha : ¬ P a) (hd : ¬ P d) : By S' a d B := by
  obtain ⟨h1, h2, h3, h4, h5, h6, h7, h8, h9⟩ := h
  obtain ⟨a1, a2, -⟩ := hk.2.1 a h1.1 ha
  obtain ⟨-, -, -, d4, -⟩ := hk.2.1 d h3.1 hd
  have dn := (hk.1 d h3.1).2.2
  refine ⟨hk.isO h1, by rw [a2]; exact h2, hk.isO h3, by rw [a1]; exact h4, by rw [dn]; exact h5, by rw [dn]; exact h6, fun j => by rw [d4]; exact h7 j, h8, fun j hj => by rw [d4]; exact h9 j hj⟩
def bAt (B : List Nat) (p : Int32) : Int32 := if p < 0 then 0 else nI (B.getD p.toNatClampNeg 0)
def tX1_widthOf : CD := [(0, .iload_n 0), (1, .sipush 128), (4, .if_icmp .ge 7), (7, .iconst 1), (8, .goto 25), (11, .iload_n 0), (12, .sipush 2048), (15, .if_icmp .ge 7), (18, .iconst 2), (19, .goto 14), (22, .iload_n 0), (23, .ldc 74), (25, .if_icmp .ge 7), (28, .iconst 3), (29, .goto 4), (32, .iconst 4), (33, .ireturn)]
set_option maxRecDepth 100000 in
theorem kX1_widthOf : chk cX1_widthOf tX1_widthOf = true := by decide +kernel
def wOf (c : Int32) : Int32 := if 128 ≤ c then (if 2048 ≤ c then (if 65536 ≤ c then 4 else 3) else 2) else 1
def sp_widthOf : Sp := sp0 (fun av _ => ∃ c, av = [.inl c]) (fun av S r S' => ∀ c, av = [.inl c] → r = some (.inl (wOf c)) ∧ S' = S)
theorem c_X1_widthOf (l : Launch) : Ct l yX1_widthOf cX1_widthOf 1 (some .int) 0 0 sp_widthOf := by
  refine Ct.of (fX1, nX1, aX1, iX1, lX1, [], qX1, gX1, []) false tX1_widthOf (fun _ _ _ => none) (by decide) (by decide) kX1_widthOf ⟨_, _, rfl⟩ fX1_ok nX1_ok aX1_ok iX1_ok lX1_ok (fun _ _ _ _ _ _ _ _ _ _ _ _ _ _ _ _ _ _ => no_all) qX1_ok gX1_ok rfl ?_ ?_
  · rintro av S ⟨c, rfl⟩
    refine ⟨Nat.le_of_ble_eq_true rfl, 30, ?_⟩
    show (((128 : Int32) ≤ c → (((2048 : Int32) ≤ c → (((65536 : Int32) ≤ c → (([] : List MV) = [] ∧ mret (some .int) sp_widthOf [.inl c] S (some (.inl (4 : Int32))) S 0 0)) ∧ (¬ (65536 : Int32) ≤ c → (([] : List MV) = [] ∧ mret (some .int) sp_widthOf [.inl c] S (some (.inl (3 : Int32))) S 0 0)))) ∧ (¬ (2048 : Int32) ≤ c → (([] : List MV) = [] ∧ mret (some .int) sp_widthOf [.inl c] S (some (.inl (2 : Int32))) S 0 0)))) ∧ (¬ (128 : Int32) ≤ c → (([] : List MV) = [] ∧ mret (some .int) sp_widthOf [.inl c] S (some (.inl (1 : Int32))) S 0 0)))
    refine ⟨fun g1 => ⟨fun g2 => ⟨fun g3 => ⟨rfl, mret0 trivial (fun _ e => ?_)⟩, fun g3 => ⟨rfl, mret0 trivial (fun _ e => ?_)⟩⟩, fun g2 => ⟨rfl, mret0 trivial (fun _ e => ?_)⟩⟩, fun g1 => ⟨rfl, mret0 trivial (fun _ e => ?_)⟩⟩
    · cases e; rw [wOf, if_pos g1, if_pos g2, if_pos g3]; exact ⟨rfl, rfl⟩
    · cases e; rw [wOf, if_pos g1, if_pos g2, if_neg g3]; exact ⟨rfl, rfl⟩
    · cases e; rw [wOf, if_pos g1, if_neg g2]; exact ⟨rfl, rfl⟩
    · cases e; rw [wOf, if_neg g1]; exact ⟨rfl, rfl⟩
  · exact fun _ _ _ _ _ h => by cases h
def tX1_isCharacter : CD := [(0, .iload_n 0), (1, .ldc 71), (3, .if_icmp .gt 19), (6, .iload_n 0), (7, .ldc 72), (9, .if_icmp .lt 9), (12, .iload_n 0), (13, .ldc 73), (15, .if_icmp .le 7), (18, .iconst 1), (19, .goto 4), (22, .iconst 0), (23, .ireturn)]
set_option maxRecDepth 100000 in
theorem kX1_isCharacter : chk cX1_isCharacter tX1_isCharacter = true := by decide +kernel
def isCh (c : Int32) : Int32 := if 1114111 < c then 0 else if c < 55296 then 1 else if c ≤ 57343 then 0 else 1
def sp_isCharacter : Sp := sp0 (fun av _ => ∃ c, av = [.inl c]) (fun av S r S' => ∀ c, av = [.inl c] → r = some (.inl (isCh c)) ∧ S' = S)
theorem c_X1_isCharacter (l : Launch) : Ct l yX1_isCharacter cX1_isCharacter 1 (some .boolean) 0 0 sp_isCharacter := by
  refine Ct.of (fX1, nX1, aX1, iX1, lX1, [], qX1, gX1, []) false tX1_isCharacter (fun _ _ _ => none) (by decide) (by decide) kX1_isCharacter ⟨_, _, rfl⟩ fX1_ok nX1_ok aX1_ok iX1_ok lX1_ok (fun _ _ _ _ _ _ _ _ _ _ _ _ _ _ _ _ _ _ => no_all) qX1_ok gX1_ok rfl ?_ ?_
  · rintro av S ⟨c, rfl⟩
    refine ⟨Nat.le_of_ble_eq_true rfl, 30, ?_⟩
    show (((1114111 : Int32) < c → (([] : List MV) = [] ∧ mret (some .boolean) sp_isCharacter [.inl c] S (some (.inl (0 : Int32))) S 0 0)) ∧ (¬ (1114111 : Int32) < c → ((c < (55296 : Int32) → (([] : List MV) = [] ∧ mret (some .boolean) sp_isCharacter [.inl c] S (some (.inl (1 : Int32))) S 0 0)) ∧ (¬ c < (55296 : Int32) → ((c ≤ (57343 : Int32) → (([] : List MV) = [] ∧ mret (some .boolean) sp_isCharacter [.inl c] S (some (.inl (0 : Int32))) S 0 0)) ∧ (¬ c ≤ (57343 : Int32) → (([] : List MV) = [] ∧ mret (some .boolean) sp_isCharacter [.inl c] S (some (.inl (1 : Int32))) S 0 0)))))))
    refine ⟨fun g1 => ⟨rfl, mret0 (Or.inl rfl) (fun _ e => ?_)⟩, fun g1 => ⟨fun g2 => ⟨rfl, mret0 (Or.inr rfl) (fun _ e => ?_)⟩, fun g2 => ⟨fun g3 => ⟨rfl, mret0 (Or.inl rfl) (fun _ e => ?_)⟩, fun g3 => ⟨rfl, mret0 (Or.inr rfl) (fun _ e => ?_)⟩⟩⟩⟩
    · cases e; rw [isCh, if_pos g1]; exact ⟨rfl, rfl⟩
    · cases e; rw [isCh, if_neg g1, if_pos g2]; exact ⟨rfl, rfl⟩
    · cases e; rw [isCh, if_neg g1, if_neg g2, if_pos g3]; exact ⟨rfl, rfl⟩
    · cases e; rw [isCh, if_neg g1, if_neg g2, if_neg g3]; exact ⟨rfl, rfl⟩
  · exact fun _ _ _ _ _ h => by cases h
def tX1_clear : CD := [(0, .aload_n 0), (1, .iconst 0), (2, .putfield 15), (5, .aload_n 0), (6, .iconst 0), (7, .putfield 19), (10, .return_)]
set_option maxRecDepth 100000 in
theorem kX1_clear : chk cX1_clear tX1_clear = true := by decide +kernel
def sp_clear : Sp := sp0 (fun av S => ∃ a, av = [.inr (.inr (some a))] ∧ isO S 2 a) (fun av S r S' => ∀ a, av = [.inr (.inr (some a))] → r = none ∧ S' = sI (sI S 201 a 0) 202 a 0)
theorem recv_clear : ∀ av S, sp_clear.1 av S → ∃ a vs, av = .inr (.inr (some a)) :: vs ∧ isO S 2 a := fun _ _ ⟨a, e, h⟩ => ⟨a, [], e, h⟩
theorem c_X1_clear (l : Launch) : Ct l yX1_clear cX1_clear 1 none 0 0 sp_clear := by
  refine Ct.of (fX1, nX1, aX1, iX1, lX1, [], qX1, gX1, []) false tX1_clear (fun _ _ _ => none) (by decide) (by decide) kX1_clear ⟨_, _, rfl⟩ fX1_ok nX1_ok aX1_ok iX1_ok lX1_ok (fun _ _ _ _ _ _ _ _ _ _ _ _ _ _ _ _ _ _ => no_all) qX1_ok gX1_ok rfl ?_ ?_
  · rintro av S ⟨a, rfl, h1⟩
    refine ⟨Nat.le_of_ble_eq_true rfl, 30, ?_⟩
    show (True ∧ (isO S 2 a ∧ (True ∧ (isO (sI S 201 a (0 : Int32)) 2 a ∧ ((0 : Int32) = 0 ∨ (0 : Int32) = 1) ∧ (([] : List MV) = [] ∧ mret none sp_clear [.inr (.inr (some a))] S none (sI (sI S 201 a (0 : Int32)) 202 a (0 : Int32)) 0 0)))))
    exact ⟨trivial, h1, trivial, h1, Or.inl rfl, rfl, mret0 trivial (fun _ e => by cases e; exact ⟨rfl, rfl⟩)⟩
  · exact fun _ _ _ _ _ h => by cases h
theorem By.clear {S : MM} {a d : Nat} {B : List Nat} (h : By S a d B) : By (sI (sI S 201 a 0) 202 a 0) a d [] := by
  obtain ⟨h1, h2, h3, h4, h5, h6, h7, h8, h9⟩ := h
  exact ⟨h1, h2, h3, by simp [mL_sI, mL_sR, mL_sJ, mL_rI, mL_rJ, mL_rR, mK_sI, mK_sR, mK_sJ, mK_rI, mK_rJ, mK_rR, mI_sR, mI_sJ, mI_rI, mI_rJ, mI_rR, mR_sI, mR_sJ, mR_rI, mR_rJ, mR_rR, mJ_sI, mJ_sR, mJ_rI, mJ_rJ, mJ_rR, mN_sI, mN_sR, mN_sJ, mN_rI, mN_rJ, mN_rR, eI_sI, eI_sR, eI_sJ, eI_rJ, eI_rR, eJ_sI, eJ_sR, eJ_sJ, eJ_rI, eJ_rR, eR_sI, eR_sR, eR_sJ, eR_rI, eR_rJ, mZ_sI, mZ_sR, mZ_sJ, mZ_rI, mZ_rJ, mZ_rR, mQ_sI, mQ_sR, mQ_sJ, mQ_rI, mQ_rJ, mQ_rR, mI_nA, mR_nA, mJ_nA, mZ_nA, mQ_nA, mN_nO, eI_nO, eJ_nO, eR_nO, mZ_nO, mQ_nO, mI_sI, mR_sR, mJ_sJ, eI_rI, eR_rR, eJ_rJ, eI_nA, mN_nA, mK_nA, mK_nO, mI_nO, mR_nO, nI_0], Nat.zero_le _, h6, h7, fun b hb => absurd hb List.not_mem_nil, fun j hj => absurd hj (Nat.not_lt_zero _)⟩
def tX1_get : CD := [(0, .iload_n 1), (1, .ifCond .lt 11), (4, .iload_n 1), (5, .aload_n 0), (6, .getfield 15), (9, .if_icmp .lt 7), (12, .iconst 0), (13, .goto 13), (16, .aload_n 0), (17, .getfield 9), (20, .iload_n 1), (21, .baload), (22, .sipush 255), (25, .iand), (26, .ireturn)]
set_option maxRecDepth 100000 in
theorem kX1_get : chk cX1_get tX1_get = true := by decide +kernel
def sp_get : Sp := sp0 (fun av S => ∃ a p d B, av = [.inr (.inr (some a)), .inl p] ∧ By S a d B) (fun av S r S' => S' = S ∧ ∀ a p d B, av = [.inr (.inr (some a)), .inl p] → By S a d B → r = some (.inl (bAt B p)))
theorem recv_get : ∀ av S, sp_get.1 av S → ∃ a vs, av = .inr (.inr (some a)) :: vs ∧ isO S 2 a := fun _ _ ⟨a, p, _, _, e, h⟩ => ⟨a, [.inl p], e, h.1⟩
theorem c_X1_get (l : Launch) : Ct l yX1_get cX1_get 2 (some .int) 0 0 sp_get := by
  refine Ct.of (fX1, nX1, aX1, iX1, lX1, [], qX1, gX1, []) false tX1_get (fun _ _ _ => none) (by decide) (by decide) kX1_get ⟨_, _, rfl⟩ fX1_ok nX1_ok aX1_ok iX1_ok lX1_ok (fun _ _ _ _ _ _ _ _ _ _ _ _ _ _ _ _ _ _ => no_all) qX1_ok gX1_ok rfl ?_ ?_
  · rintro av S ⟨a, p, d, B, rfl, hB⟩
    refine ⟨Nat.le_of_ble_eq_true rfl, 30, ?_⟩
    show ((p < 0 → (([] : List MV) = [] ∧ mret (some .int) sp_get [.inr (.inr (some a)), .inl p] S (some (.inl (0 : Int32))) S 0 0)) ∧ (¬ p < 0 → (isO S 2 a ∧ ((p < (mI S 201 a) → (isO S 2 a ∧ (pa (mR S 200 a) fun a_1 => (isO S 16 a_1 ∨ isO S 20 a_1) ∧ inR S a_1 p ∧ (([] : List MV) = [] ∧ mret (some .int) sp_get [.inr (.inr (some a)), .inl p] S (some (.inl ((eI S a_1 p.toNatClampNeg) &&& (255 : Int32)))) S 0 0)))) ∧ (¬ p < (mI S 201 a) → (([] : List MV) = [] ∧ mret (some .int) sp_get [.inr (.inr (some a)), .inl p] S (some (.inl (0 : Int32))) S 0 0))))))
    have hcap := hB.cap
    obtain ⟨h1, h2, h3, h4, h5, h6, h7, h8, h9⟩ := id hB
    have hpost : ∀ v : Int32, (∀ d' B', By S a d' B' → v = bAt B' p) → mret (some .int) sp_get [.inr (.inr (some a)), .inl p] S (some (.inl v)) S 0 0 := fun v hv => mret0 trivial ⟨rfl, fun a' p' d' B' e hB' => by cases e; rw [hv d' B' hB']⟩
    refine ⟨fun hp => ⟨rfl, hpost _ (fun d' B' hB' => ?_)⟩, fun hp => ⟨h1, fun hlt => ⟨h1, pa_i h2 ?_⟩, fun hge => ⟨rfl, hpost _ (fun d' B' hB' => ?_)⟩⟩⟩
    · rw [bAt, if_pos hp]
    · obtain ⟨j, hj, rfl⟩ := nI_of hp
      rw [h4] at hlt
      have hjl : j < B.length := (nI_ltI hj (by omega)).mp hlt
      refine ⟨Or.inl h3, vp_in_nI (by omega) (by omega), rfl, hpost _ (fun d' B' hB' => ?_)⟩
      have e1 := hB.row hB'
      subst e1
      have e2 := hB.size hB'
      rw [bAt, if_neg hp, nI_clamp hj]
      exact hB'.2.2.2.2.2.2.2.2 j (by omega)
    · obtain ⟨j, hj, rfl⟩ := nI_of hp
      have hl' := hB'.len
      rw [hB'.2.2.2.1] at hge
      have hjl : B'.length ≤ j := Nat.le_of_not_lt fun q => hge ((nI_ltI hj (by omega)).mpr q)
      rw [bAt, if_neg hp, nI_clamp hj, show B'.getD j 0 = 0 by simp [List.getD_eq_getElem?_getD, List.getElem?_eq_none hjl]]
      rfl
  · exact fun _ _ _ _ _ h => by cases h
def tX1_init : CD := [(0, .aload_n 0), (1, .invokespecial 3), (4, .aload_n 0), (5, .bipush 64), (7, .newarray .byte), (9, .putfield 9), (12, .aload_n 0), (13, .iconst 0), (14, .putfield 15), (17, .aload_n 0), (18, .iconst 0), (19, .putfield 19), (22, .return_)]
set_option maxRecDepth 100000 in
theorem kX1_init : chk cX1_init tX1_init = true := by decide +kernel
/-- a new object of bytes: a row of 64 comes -/
def sp_X1_init : Sp := (fun av S => ∃ a, av = [.inr (.inr (some a))] ∧ isO S 2 a, fun _ _ => 1, fun _ _ => 64, fun av S r S' => ∀ a, av = [.inr (.inr (some a))] → r = none ∧ ∃ q, q ∉ mL S ∧ S' = sI (sI (sR (nA S q 16 64) 200 a (some q)) 201 a 0) 202 a 0, fun _ _ _ _ => False)
theorem recv_X1_init : ∀ av S, sp_X1_init.1 av S → ∃ a vs, av = .inr (.inr (some a)) :: vs := fun _ _ ⟨a, e, _⟩ => ⟨a, [], e⟩
theorem wX1_init_3 : ∀ w ∈ ([.methodLink RX1 3 Lib.objectInit, .instanceMethod Lib.objectInit, .code Lib.objectInit ⟨#[0xb1]⟩ 1 none] : List Cond), w ∈ lw_good := List.forall_mem_cons.mpr ⟨mgd 165 (by decide +kernel) (by decide +kernel), List.forall_mem_cons.mpr ⟨mgd 158 (by decide +kernel) (by decide +kernel), List.forall_mem_cons.mpr ⟨mgd 159 (by decide +kernel) (by decide +kernel), fun _ h => absurd h List.not_mem_nil⟩⟩⟩
theorem c_X1_init (l : Launch) : Ct l yX1_init cX1_init 1 none 1 20 sp_X1_init := by
  refine Ct.of (fX1, nX1, aX1, iX1, lX1, [(3, 1, 1, 0, Told 0 spObj)], qX1, gX1, []) true tX1_init (fun _ _ _ => none) (by decide) (by decide) kX1_init ⟨_, _, rfl⟩ fX1_ok nX1_ok aX1_ok iX1_ok lX1_ok (fun p e R s m args below meth c Q D cy z r A C hR1 hR2 => List.forall_mem_cons.mpr ⟨cOK_old (cOK_obj C wX1_init_3 ⟨by rw [hR1]; decide, by rw [hR2]; decide⟩), fun _ h => absurd h List.not_mem_nil⟩) qX1_ok gX1_ok rfl ?_ ?_
  · rintro av S ⟨a, rfl, h1⟩
    refine ⟨Nat.le_of_ble_eq_true rfl, 30, ?_⟩
    show (1 = 1 ∧ spObj.1 [.inr (.inr (some a))] S ∧ 0 ≤ 1 ∧ 0 ≤ 64 ∧ (∀ (S_1 : MM), spObj.2.2.2.1 [.inr (.inr (some a))] S none S_1 → (¬ (64 : Int32) < 0 ∧ (64 : Int32).toNatClampNeg * 8 ≤ 536870912 ∧ 0 + 1 ≤ 1 ∧ 0 + (64 : Int32).toNatClampNeg ≤ 64 ∧ ∀ q_5, q_5 ∉ mL S_1 → (True ∧ (isO (nA S_1 q_5 16 (64 : Int32).toNatClampNeg) 2 a ∧ (True ∧ (isO (sR (nA S_1 q_5 16 (64 : Int32).toNatClampNeg) 200 a (some q_5)) 2 a ∧ (True ∧ (isO (sI (sR (nA S_1 q_5 16 (64 : Int32).toNatClampNeg) 200 a (some q_5)) 201 a (0 : Int32)) 2 a ∧ ((0 : Int32) = 0 ∨ (0 : Int32) = 1) ∧ (([] : List MV) = [] ∧ mret none sp_X1_init [.inr (.inr (some a))] S none (sI (sI (sR (nA S_1 q_5 16 (64 : Int32).toNatClampNeg) 200 a (some q_5)) 201 a (0 : Int32)) 202 a (0 : Int32)) (0 + 1) (0 + (64 : Int32).toNatClampNeg)))))))))) ∧ ∀ (E_4 : Nat) (S_3 : MM), False → False)
    refine ⟨rfl, ⟨a, rfl⟩, by decide, by decide, fun S1 hp => ?_, fun _ _ q => q⟩
    obtain ⟨-, rfl⟩ := hp
    refine ⟨by decide, by decide, by decide, by decide, fun q hq => ⟨trivial, isO_nA (n := 64) h1 hq, trivial, isO_nA (n := 64) h1 hq, trivial, isO_nA (n := 64) h1 hq, Or.inl rfl, rfl, ?_⟩⟩
    exact ⟨trivial, fun _ e => by cases e; exact ⟨rfl, q, hq, rfl⟩, (show 0 + 1 ≤ 1 by decide), (show 0 + (64 : Int32).toNatClampNeg ≤ 64 by decide)⟩
  · exact fun _ _ _ _ _ h => by cases h
theorem By.new {S : MM} {a q : Nat} (h1 : isO S 2 a) (hq : q ∉ mL S) : By (sI (sI (sR (nA S q 16 64) 200 a (some q)) 201 a 0) 202 a 0) a q [] :=
  ⟨isO_nA (n := 64) h1 hq, up2_s, isO_nA_self (n := 64), by simp [mL_sI, mL_sR, mL_sJ, mL_rI, mL_rJ, mL_rR, mK_sI, mK_sR, mK_sJ, mK_rI, mK_rJ, mK_rR, mI_sR, mI_sJ, mI_rI, mI_rJ, mI_rR, mR_sI, mR_sJ, mR_rI, mR_rJ, mR_rR, mJ_sI, mJ_sR, mJ_rI, mJ_rJ, mJ_rR, mN_sI, mN_sR, mN_sJ, mN_rI, mN_rJ, mN_rR, eI_sI, eI_sR, eI_sJ, eI_rJ, eI_rR, eJ_sI, eJ_sR, eJ_sJ, eJ_rI, eJ_rR, eR_sI, eR_sR, eR_sJ, eR_rI, eR_rJ, mZ_sI, mZ_sR, mZ_sJ, mZ_rI, mZ_rJ, mZ_rR, mQ_sI, mQ_sR, mQ_sJ, mQ_rI, mQ_rJ, mQ_rR, mI_nA, mR_nA, mJ_nA, mZ_nA, mQ_nA, mN_nO, eI_nO, eJ_nO, eR_nO, mZ_nO, mQ_nO, mI_sI, mR_sR, mJ_sJ, eI_rI, eR_rR, eJ_rJ, eI_nA, mN_nA, mK_nA, mK_nO, mI_nO, mR_nO, nI_0], Nat.zero_le _, ⟨0, by decide, va_up_self _ _ _⟩, fun j => by
    have e : eI (sI (sI (sR (nA S q 16 64) 200 a (some q)) 201 a 0) 202 a 0) q = fun _ => 0 := va_up_self _ _ _
    rw [e]
    exact sb_fit0 j, fun b hb => absurd hb List.not_mem_nil, fun j hj => absurd hj (Nat.not_lt_zero _)⟩
