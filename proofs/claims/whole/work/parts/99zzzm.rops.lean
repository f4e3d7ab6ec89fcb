/-! ===== The reference reads the operations ===== -/
theorem lN_Z (n : Nat) : lN n = lZ n := by unfold lN lZ; rw [Int64.ofInt_eq_ofNat]
theorem lN_div {a b : Nat} (ha : a < 2 ^ 63) (hb : b < 2 ^ 63) : lN a / lN b = lN (a / b) := (Int64.ofNat_div ha hb).symm
theorem lN_rem3 {n : Nat} (h : n < 2147483648) : (lN n - lN n / 3 * 3).toInt32 = nI (n % 3) := by
  rw [show (3 : Int64) = lN 3 from rfl, lN_div (by omega) (by omega), show lN (n / 3) * lN 3 = lN (n / 3 * 3) from (Int64.ofNat_mul _ _).symm, lN_mi (by omega), lN_32 (by omega)]
  exact congrArg nI (by omega)
theorem zz_J (e : Int) {c : Nat} (h : c < 2147483648) : (c / 3 % 2 = 0 → lZ e + lN c / 3 / 2 = lZ (e + zz c)) ∧ (¬ c / 3 % 2 = 0 → lZ e + (-(lN c / 3 + 1)) / 2 = lZ (e + zz c)) := by
  rw [show (3 : Int64) = lN 3 from rfl, lN_div (by omega) (by omega)]
  refine ⟨fun w => ?_, fun w => ?_⟩
  · rw [show (2 : Int64) = lN 2 from rfl, lN_div (by omega) (by omega), zz, if_pos w, lN_Z, lZ_add]
  · have e1 : -(lN (c / 3) + 1) = lZ (-((c / 3 : Nat) + 1)) := by
      rw [lN_Z, show (1 : Int64) = lZ 1 from rfl, lZ_add]
      exact (Int64.ofInt_neg _).symm
    have e2 : lZ (-((c / 3 : Nat) + 1)) / 2 = lZ (Int.tdiv (-((c / 3 : Nat) + 1)) 2) := (Int64.ofInt_tdiv (a := -((c / 3 : Nat) + 1)) (b := 2) (by show (-9223372036854775808 : Int) ≤ _; omega) (by show _ ≤ (9223372036854775807 : Int); omega) (by decide) (by decide)).symm
    have e3 : Int.tdiv (-(((c / 3 : Nat) : Int) + 1)) 2 = -((c / 3 / 2 : Nat) : Int) - 1 := by
      rw [Int.neg_tdiv, Int.tdiv_eq_ediv_of_nonneg (by omega)]
      omega
    rw [e1, e2, e3, lZ_add, zz, if_neg w]
/-- the operations of the spans that are left; I: how many characters are inserted -/
def rdOq (B : List Nat) (q : Nat) (A : List SpR) : Nat → Nat → Int → Nat → List (Nat × Int) → Option (List (Nat × Int) × Nat × Nat)
  | 0, p, _, I, D => some (D, I, p)
  | k + 1, p, e, I, D => match rdO B q p (A.getD D.length (0, 0, 0)).2.2 e with
    | none => none
    | some x => rdOq B q A k x.2.2.2 x.2.2.1 (I + if x.1 = 0 then (A.getD D.length (0, 0, 0)).2.2 else 0) (D ++ [(x.1, x.2.1)])
section RDOQ
variable {B : List Nat} {q : Nat} {A : List SpR} {k p I : Nat} {e : Int} {D : List (Nat × Int)} {x : Nat × Int × Int × Nat}
theorem rdOq_1 (h : rdO B q p (A.getD D.length (0, 0, 0)).2.2 e = none) : rdOq B q A (k + 1) p e I D = none := by rw [rdOq, h]
theorem rdOq_2 (h : rdO B q p (A.getD D.length (0, 0, 0)).2.2 e = some x) : rdOq B q A (k + 1) p e I D = rdOq B q A k x.2.2.2 x.2.2.1 (I + if x.1 = 0 then (A.getD D.length (0, 0, 0)).2.2 else 0) (D ++ [(x.1, x.2.1)]) := by rw [rdOq, h]
end RDOQ
def nop (B : List Nat) (cA cE : Nat → Nat) (A : List SpR) : Option (List (Nat × Int) × Nat × Nat) := rdOq B (cE 3) A A.length (cA 3) 0 0 []
def opV (o : Option (List (Nat × Int) × Nat × Nat)) (q n : Nat) : Bool := match o with
  | none => false
  | some x => decide (x.2.2 = q ∧ x.2.1 = n)
/-- kinds and indices of the spans -/
def oqP (S : MM) (z : Nat → Nat) (D : List (Nat × Int)) : Prop := ∀ j, j < D.length → eI S (z 41) j = nI (D.getD j (0, 0)).1 ∧ eJ S (z 46) j = lZ (D.getD j (0, 0)).2
def rqD : List Nat := [41, 46]
def rqB (S S1 : MM) (t r : Nat) (z : Nat → Nat) (B : List Nat) (p q : Nat) (D : List (Nat × Int)) : Prop := rK rqD [1535, 1536] S S1 t z ∧ rdP9 S1 t r B p q ∧ oqP S1 z D
def rqF (B : List Nat) (cA cE : Nat → Nat) (A : List SpR) (k p : Nat) (e : Int) (I : Nat) (D : List (Nat × Int)) : Prop := nop B cA cE A = rdOq B (cE 3) A k p e I D ∧ D.length + k = A.length ∧ -(1073750016 * (D.length : Int)) ≤ e ∧ e ≤ 1073750016 * (D.length : Int) ∧ I ≤ 8192 * D.length
def I_rop1 (t r : Nat) (z : Nat → Nat) (B : List Nat) (cA cE : Nat → Nat) (A : List SpR) (S : MM) (k : Nat) : KT := fun lo st S1 cs sl => ∃ (k0 p : Nat) (e : Int) (I : Nat) (D : List (Nat × Int)), k = 10 * k0 ∧ rqF B cA cE A k0 p e I D ∧ rqB S S1 t r z B p (cE 3) D ∧ lo = [(0, .inr (.inr (some t))), (1, .inr (.inl (lZ e))), (3, .inr (.inl (lN I))), (5, .inl (nI D.length))] ∧ st = [] ∧ cs = 0 ∧ sl = 0
def I_rop2 (t r : Nat) (z : Nat → Nat) (B : List Nat) (cA cE : Nat → Nat) (A : List SpR) (S : MM) (k : Nat) : KT := fun lo st S1 cs sl => ∃ (k0 p : Nat) (e : Int) (I : Nat) (D : List (Nat × Int)) (c : Nat), k = 10 * k0 + 9 ∧ rqF B cA cE A (k0 + 1) p e I D ∧ (vint B (cE 3) p).1 = some c ∧ rqB S S1 t r z B (vint B (cE 3) p).2 (cE 3) D ∧ lo = [(0, .inr (.inr (some t))), (3, .inr (.inl (lN I))), (5, .inl (nI D.length)), (6, .inr (.inl (lN c))), (10, .inr (.inl (lZ (e + zz c))))] ∧ st = [] ∧ cs = 0 ∧ sl = 0
def I_rop3 (t r : Nat) (z : Nat → Nat) (B : List Nat) (cA cE : Nat → Nat) (A : List SpR) (S : MM) (k : Nat) : KT := fun lo st S1 cs sl => ∃ (k0 p : Nat) (e : Int) (I : Nat) (D : List (Nat × Int)) (c : Nat), k = 10 * k0 + 8 ∧ rqF B cA cE A (k0 + 1) p e I D ∧ (vint B (cE 3) p).1 = some c ∧ rqB S S1 t r z B (vint B (cE 3) p).2 (cE 3) (D ++ [(c % 3, e + zz c)]) ∧ lo = [(0, .inr (.inr (some t))), (3, .inr (.inl (lN I))), (5, .inl (nI D.length)), (10, .inr (.inl (lZ (e + zz c))))] ∧ st = [] ∧ cs = 0 ∧ sl = 0
def I_rop4 (t r : Nat) (z : Nat → Nat) (B : List Nat) (cA cE : Nat → Nat) (A : List SpR) (S : MM) (k : Nat) : KT := fun lo st S1 cs sl => ∃ (k0 p : Nat) (e : Int) (I : Nat) (D : List (Nat × Int)) (c : Nat), k = 10 * k0 + 7 ∧ rqF B cA cE A (k0 + 1) p e I D ∧ (vint B (cE 3) p).1 = some c ∧ rdO B (cE 3) p (A.getD D.length (0, 0, 0)).2.2 e = some (c % 3, e + zz c, e + zz c + opS (c % 3) * (A.getD D.length (0, 0, 0)).2.2, (vint B (cE 3) p).2) ∧ rqB S S1 t r z B (vint B (cE 3) p).2 (cE 3) (D ++ [(c % 3, e + zz c)]) ∧ lo = [(0, .inr (.inr (some t))), (3, .inr (.inl (lN (I + if c % 3 = 0 then (A.getD D.length (0, 0, 0)).2.2 else 0)))), (5, .inl (nI D.length)), (10, .inr (.inl (lZ (e + zz c))))] ∧ st = [] ∧ cs = 0 ∧ sl = 0
def T_rrop : TR := fun Rc Rs av S cs sl K _Kx => match av with
  | [.inr (.inr t_o)] => pa t_o fun t => (∃ (F : Nat → Nat × Nat) (z : Nat → Nat) (Y : Nat → Nat → Nat) (R : Rb) (kz : Nat → Nat) (r : Nat) (B : List Nat) (cA cE : Nat → Nat) (A : List SpR) (n : Nat), (MD S F t z Y R kz ∧ rdC S t r z B cA cE ∧ spP S t z kz A ∧ (∀ s, s ∈ A → s.1 < 256 ∧ s.2.1 < 2147483648 ∧ 1 ≤ s.2.2 ∧ s.2.2 ≤ 8192) ∧ mI S 1518 t = nI n ∧ n ≤ 32768) ∧ cs ≤ Rc ∧ sl ≤ Rs ∧ (∀ (S' : MM), (rK rqD [1535, 1536] S S' t z ∧ ∀ x, nop B cA cE A = some x → x.1.length = A.length ∧ oqP S' z x.1) → K (some (.inl (bI (opV (nop B cA cE A) (cE 3) n)))) S' cs sl))
  | _ => False
def sp_rrop (t : Nat) (F : Nat → Nat × Nat) (z : Nat → Nat) (Y : Nat → Nat → Nat) (R : Rb) (kz : Nat → Nat) (r : Nat) (B : List Nat) (cA cE : Nat → Nat) (A : List SpR) (n : Nat) : Sp := (fun av S => av = [.inr (.inr (some t))] ∧ (MD S F t z Y R kz ∧ rdC S t r z B cA cE ∧ spP S t z kz A ∧ (∀ s, s ∈ A → s.1 < 256 ∧ s.2.1 < 2147483648 ∧ 1 ≤ s.2.2 ∧ s.2.2 ≤ 8192) ∧ mI S 1518 t = nI n ∧ n ≤ 32768), fun _ S => 0, fun _ S => 0, fun _ S rv S' => rv = (some (.inl (bI (opV (nop B cA cE A) (cE 3) n)))) ∧ (rK rqD [1535, 1536] S S' t z ∧ ∀ x, nop B cA cE A = some x → x.1.length = A.length ∧ oqP S' z x.1), fun _ _ _ _ => False)
theorem rrop_bad {t : Nat} {F : Nat → Nat × Nat} {z : Nat → Nat} {Y : Nat → Nat → Nat} {R : Rb} {kz : Nat → Nat} {r : Nat} {B : List Nat} {cA cE : Nat → Nat} {A : List SpR} {n : Nat} {S S2 : MM} (h : rK rqD [1535, 1536] S S2 t z) (h1 : nop B cA cE A = none) : ([] : List MV) = [] ∧ mret (some .boolean) (sp_rrop t F z Y R kz r B cA cE A n) [.inr (.inr (some t))] S (some (.inl (0 : Int32))) S2 0 0 := ⟨rfl, rt0, ⟨by rw [h1]; rfl, h, fun x e => by rw [h1] at e; cases e⟩, Nat.le_refl _, Nat.le_refl _⟩
theorem rqB.nu {S S1 S2 : MM} {F : Nat → Nat × Nat} {t r : Nat} {z : Nat → Nat} {Y : Nat → Nat → Nat} {R : Rb} {kz : Nat → Nat} {B : List Nat} {p q : Nat} {D : List (Nat × Int)} (h : rqB S S1 t r z B p q D) (hM : MD S F t z Y R kz) (hq : nuQ S1 S2 t B p q) : ∃ p', p ≤ p' ∧ p' ≤ q ∧ rqB S S2 t r z B p' q D ∧ ∀ n, (vint B q p).1 = some n → p' = (vint B q p).2 := by
  obtain ⟨hK, ⟨x1, x2, x3, x4, x5, x6⟩, hO⟩ := h
  obtain ⟨p', a1, a2, rfl, a4⟩ := hq
  have M1 := hK.md hM (by decide) (by decide)
  have k1 : rK [] [1535] S1 (sI S1 1535 t (nI p')) t z := rK.sf 1535 (nI p')
  refine ⟨p', a1, a2, ⟨hK.tr (k1.mono (fun k hk => by cases hk) (by decide)), ⟨x1, k1.by M1 x2 (fun k hk => by cases hk), ?_, ?_, a2, x6⟩, hO⟩, a4⟩
  · rw [mI_sI, if_pos ⟨rfl, rfl⟩]
  · rw [mI_sI, if_neg (fun e => absurd e.1 (by decide))]; exact x4
def tX14_readOps : CD := [(0, .aload_n 0), (1, .iconst 3), (2, .invokevirtual 458), (5, .lconst 0), (6, .lstore_n 1), (7, .lconst 0), (8, .lstore_n 3), (9, .iconst 0), (10, .istore 5), (12, .iload 5), (14, .aload_n 0), (15, .getfield 467), (18, .if_icmp .ge 190), (21, .aload_n 0), (22, .invokevirtual 431), (25, .lstore 6), (27, .lload 6), (29, .lconst 0), (30, .lcmp), (31, .ifCond .ge 5), (34, .iconst 0), (35, .ireturn), (36, .lload 6), (38, .ldc2_w 377), (41, .ldiv), (42, .lstore 8), (44, .lload_n 1), (45, .lload 8), (47, .lconst 1), (48, .land), (49, .lconst 0), (50, .lcmp), (51, .ifCond .ne 12), (54, .lload 8), (56, .ldc2_w 382), (59, .ldiv), (60, .goto 12), (63, .lload 8), (65, .lconst 1), (66, .ladd), (67, .lneg), (68, .ldc2_w 382), (71, .ldiv), (72, .ladd), (73, .lstore 10), (75, .aload_n 0), (76, .getfield 106), (79, .iload 5), (81, .lload 6), (83, .ldc2_w 377), (86, .lrem), (87, .l2i), (88, .iastore), (89, .aload_n 0), (90, .getfield 122), (93, .iload 5), (95, .lload 10), (97, .lastore), (98, .lload 10), (100, .lconst 0), (101, .lcmp), (102, .ifCond .lt 31), (105, .aload_n 0), (106, .getfield 106), (109, .iload 5), (111, .iaload), (112, .iconst 2), (113, .if_icmp .ne 22), (116, .lload 10), (118, .aload_n 0), (119, .getfield 119), (122, .iload 5), (124, .laload), (125, .lconst 1), (126, .lsub), (127, .lsub), (128, .lconst 0), (129, .lcmp), (130, .ifCond .ge 5), (133, .iconst 0), (134, .ireturn), (135, .aload_n 0), (136, .getfield 106), (139, .iload 5), (141, .iaload), (142, .ifCond .ne 13), (145, .lload_n 3), (146, .aload_n 0), (147, .getfield 119), (150, .iload 5), (152, .laload), (153, .ladd), (154, .lstore_n 3), (155, .lload 10), (157, .aload_n 0), (158, .getfield 106), (161, .iload 5), (163, .iaload), (164, .ifCond .ne 13), (167, .aload_n 0), (168, .getfield 119), (171, .iload 5), (173, .laload), (174, .goto 26), (177, .aload_n 0), (178, .getfield 106), (181, .iload 5), (183, .iaload), (184, .iconst 1), (185, .if_icmp .ne 7), (188, .lconst 0), (189, .goto 11), (192, .aload_n 0), (193, .getfield 119), (196, .iload 5), (198, .laload), (199, .lneg), (200, .ladd), (201, .lstore_n 1), (202, .iinc 5 1), (205, .goto (-193)), (208, .aload_n 0), (209, .getfield 398), (212, .aload_n 0), (213, .getfield 401), (216, .if_icmp .ne 17), (219, .lload_n 3), (220, .aload_n 0), (221, .getfield 159), (224, .i2l), (225, .lcmp), (226, .ifCond .ne 7), (229, .iconst 1), (230, .goto 4), (233, .iconst 0), (234, .ireturn)]
set_option maxRecDepth 100000 in
theorem kX14_readOps : chk cX14_readOps tX14_readOps = true := by decide +kernel
theorem vX14_readOps_458 : ∀ w ∈ ([.methodLink RX14 458 yX14_enter, .instanceMethod yX14_enter, .selects yX14_enter.cls yX14_enter yX14_enter, .initialized yX14_enter.cls, .code yX14_enter cX14_enter 2 none] : List Cond), w ∈ lw_good := List.forall_mem_cons.mpr ⟨mgd 2361 (by decide +kernel) (by decide +kernel), List.forall_mem_cons.mpr ⟨mgd 2363 (by decide +kernel) (by decide +kernel), List.forall_mem_cons.mpr ⟨mgd 103 (by decide +kernel) (by decide +kernel), List.forall_mem_cons.mpr ⟨mgd 136 (by decide +kernel) (by decide +kernel), List.forall_mem_cons.mpr ⟨mgd 2364 (by decide +kernel) (by decide +kernel), fun _ h => absurd h List.not_mem_nil⟩⟩⟩⟩⟩
theorem vX14_readOps_431 : ∀ w ∈ ([.methodLink RX14 431 yX14_number, .instanceMethod yX14_number, .selects yX14_number.cls yX14_number yX14_number, .initialized yX14_number.cls, .code yX14_number cX14_number 5 (some .long)] : List Cond), w ∈ lw_good := List.forall_mem_cons.mpr ⟨mgd 2346 (by decide +kernel) (by decide +kernel), List.forall_mem_cons.mpr ⟨mgd 2348 (by decide +kernel) (by decide +kernel), List.forall_mem_cons.mpr ⟨mgd 100 (by decide +kernel) (by decide +kernel), List.forall_mem_cons.mpr ⟨mgd 136 (by decide +kernel) (by decide +kernel), List.forall_mem_cons.mpr ⟨mgd 2349 (by decide +kernel) (by decide +kernel), fun _ h => absurd h List.not_mem_nil⟩⟩⟩⟩⟩
set_option maxRecDepth 100000 in
set_option maxHeartbeats 2000000 in
theorem c_rrop (l : Launch) : ∀ (t : Nat) (F : Nat → Nat × Nat) (z : Nat → Nat) (Y : Nat → Nat → Nat) (R : Rb) (kz : Nat → Nat) (r : Nat) (B : List Nat) (cA cE : Nat → Nat) (A : List SpR) (n : Nat), Ct l yX14_readOps cX14_readOps 12 (some .boolean) 1 24 (sp_rrop t F z Y R kz r B cA cE A n) := by
  intro t F z Y R kz r B cA cE A n
  refine Ct.of (fX14, nX14, aX14, iX14, lX14, [(458, 0, 2, 0, T_rent), (431, 0, 1, 2, T_rnum)], qX14, gX14, []) false tX14_readOps (fun _ S => look [(12, ([0,1,3,5], I_rop1 t r z B cA cE A S)), (75, ([0,3,5,6,10], I_rop2 t r z B cA cE A S)), (98, ([0,3,5,10], I_rop3 t r z B cA cE A S)), (155, ([0,3,5,10], I_rop4 t r z B cA cE A S))]) (by decide) (by decide) kX14_readOps ⟨_, _, rfl⟩ fX14_ok nX14_ok aX14_ok iX14_ok lX14_ok (fun p e R s m args below meth c Q D cy z r A C hR1 hR2 => List.forall_mem_cons.mpr ⟨cOK_use (fun _ _ _ _ _ _ _ _ h => let ⟨sp, h1, h2, h3⟩ := u_rent l _ _ _ _ _ _ _ _ h; ⟨sp, cOK_V C h1 vX14_readOps_458 ⟨by decide, by decide, by decide +kernel⟩ ⟨by rw [hR1]; decide, by rw [hR2]; decide⟩ (k := 15) (T := TX14) (N := 52) rfl (by decide) h2, h3⟩), List.forall_mem_cons.mpr ⟨cOK_use (fun _ _ _ _ _ _ _ _ h => let ⟨sp, h1, h2, h3⟩ := u_rnum l _ _ _ _ _ _ _ _ h; ⟨sp, cOK_V C h1 vX14_readOps_431 ⟨by decide, by decide, by decide +kernel⟩ ⟨by rw [hR1]; decide, by rw [hR2]; decide⟩ (k := 15) (T := TX14) (N := 52) rfl (by decide) h2, h3⟩), fun _ h => absurd h List.not_mem_nil⟩⟩) qX14_ok gX14_ok rfl ?_ ?_
  · rintro _ S ⟨rfl, hp⟩
    refine ⟨Nat.le_of_ble_eq_true rfl, 300, ?_⟩
    show (0 = 0 ∧ (∃ (c_1 : Nat), (3 : Int32) = nI c_1 ∧ (∃ (F_2 : Nat → Nat × Nat) (z_3 : Nat → Nat) (Y_4 : Nat → Nat → Nat) (R_5 : Rb) (kz_6 : Nat → Nat) (cA_7 cE_8 : Nat → Nat), (MD S F_2 t z_3 Y_4 R_5 kz_6 ∧ coP S z_3 cA_7 cE_8 ∧ c_1 < 5) ∧ 0 ≤ 0 ∧ 0 ≤ 0 ∧ ((∃ k1, I_rop1 t r z B cA cE A S k1 [(0, .inr (.inr (some t))), (1, .inr (.inl (0 : Int64))), (3, .inr (.inl (0 : Int64))), (5, .inl (0 : Int32))] [] (sI (sI S 1535 t (nI (cA_7 c_1))) 1536 t (nI (cE_8 c_1))) 0 0)))))
    obtain ⟨hM, ⟨r1, r2, hC, hc⟩, hA, hAA, hn, hn9⟩ := hp
    obtain ⟨c1, c2⟩ := hc 3 (by decide)
    have k2 : rK rqD [1535, 1536] S (sI (sI S 1535 t (nI (cA 3))) 1536 t (nI (cE 3))) t z := ((rK.sf 1535 (nI (cA 3))).mono (fun k hk => by cases hk) (by decide)).tr ((rK.sf 1536 (nI (cE 3))).mono (fun k hk => by cases hk) (by decide))
    have k3 : rK [] [1535, 1536] S (sI (sI S 1535 t (nI (cA 3))) 1536 t (nI (cE 3))) t z := ((rK.sf 1535 (nI (cA 3))).mono (fun k hk => by cases hk) (by decide)).tr ((rK.sf 1536 (nI (cE 3))).mono (fun k hk => by cases hk) (by decide))
    refine ⟨rfl, 3, rfl, F, z, Y, R, kz, cA, cE, ⟨hM, hC, by decide⟩, Nat.zero_le _, Nat.zero_le _, 10 * A.length, A.length, cA 3, 0, 0, [], rfl, ⟨rfl, Nat.zero_add _, Int.le_refl _, Int.le_refl _, Nat.zero_le _⟩, ⟨k2, ⟨r1, k3.by hM r2 (fun k hk => by cases hk), ?_, ?_, c1, c2⟩, fun j hj => absurd hj (Nat.not_lt_zero j)⟩, rfl, rfl, rfl, rfl⟩
    · rw [mI_sI, if_neg (fun e => absurd e.1 (by decide)), mI_sI, if_pos ⟨rfl, rfl⟩]
    · rw [mI_sI, if_pos ⟨rfl, rfl⟩]
  · intro av S hpre pc I hI k lo st S1 cs sl h
    obtain ⟨rfl, hp⟩ := hpre
    have hm := look_in hI
    simp only [List.mem_cons, List.not_mem_nil, or_false] at hm
    rcases hm with hm | hm | hm | hm
    · cases hm
      obtain ⟨k0, p, e, I, D, rfl, hF, hB, rfl, rfl, rfl, rfl⟩ := h
      refine ⟨300, ?_⟩
      show (isO S1 15 t ∧ (((mI S1 1549 t) ≤ (nI D.length) → (isO S1 15 t ∧ (isO S1 15 t ∧ ((¬ (mI S1 1535 t) = (mI S1 1536 t) → (([] : List MV) = [] ∧ mret (some .boolean) (sp_rrop t F z Y R kz r B cA cE A n) [.inr (.inr (some t))] S (some (.inl (0 : Int32))) S1 0 0)) ∧ ((mI S1 1535 t) = (mI S1 1536 t) → (isO S1 15 t ∧ ((¬ (lg_cmp (lN I) ((mI S1 1518 t).toInt64)) = 0 → (([] : List MV) = [] ∧ mret (some .boolean) (sp_rrop t F z Y R kz r B cA cE A n) [.inr (.inr (some t))] S (some (.inl (0 : Int32))) S1 0 0)) ∧ ((lg_cmp (lN I) ((mI S1 1518 t).toInt64)) = 0 → (([] : List MV) = [] ∧ mret (some .boolean) (sp_rrop t F z Y R kz r B cA cE A n) [.inr (.inr (some t))] S (some (.inl (1 : Int32))) S1 0 0))))))))) ∧ (¬ (mI S1 1549 t) ≤ (nI D.length) → (0 = 0 ∧ (∃ (F_1 : Nat → Nat × Nat) (z_2 : Nat → Nat) (Y_3 : Nat → Nat → Nat) (R_4 : Rb) (kz_5 : Nat → Nat) (r_6 : Nat) (B_7 : List Nat) (p_8 q_9 : Nat), (MD S1 F_1 t z_2 Y_3 R_4 kz_5 ∧ rdP9 S1 t r_6 B_7 p_8 q_9) ∧ 0 ≤ 0 ∧ 0 ≤ 0 ∧ (∀ (S_10 : MM), (nuQ S1 S_10 t B_7 p_8 q_9) → ((0 ≤ (lg_cmp (oJ (vint B_7 q_9 p_8).1) (0 : Int64)) → (¬ (3 : Int64) = 0 ∧ ((¬ (lg_cmp (((oJ (vint B_7 q_9 p_8).1) / (3 : Int64)) &&& (1 : Int64)) (0 : Int64)) = 0 → (¬ (2 : Int64) = 0 ∧ (∃ k1, k1 < 10 * k0 ∧ I_rop2 t r z B cA cE A S k1 [(0, .inr (.inr (some t))), (3, .inr (.inl (lN I))), (5, .inl (nI D.length)), (6, .inr (.inl (oJ (vint B_7 q_9 p_8).1))), (10, .inr (.inl ((lZ e) + ((-(((oJ (vint B_7 q_9 p_8).1) / (3 : Int64)) + (1 : Int64))) / (2 : Int64)))))] [] S_10 0 0))) ∧ ((lg_cmp (((oJ (vint B_7 q_9 p_8).1) / (3 : Int64)) &&& (1 : Int64)) (0 : Int64)) = 0 → (¬ (2 : Int64) = 0 ∧ (∃ k1, k1 < 10 * k0 ∧ I_rop2 t r z B cA cE A S k1 [(0, .inr (.inr (some t))), (3, .inr (.inl (lN I))), (5, .inl (nI D.length)), (6, .inr (.inl (oJ (vint B_7 q_9 p_8).1))), (10, .inr (.inl ((lZ e) + (((oJ (vint B_7 q_9 p_8).1) / (3 : Int64)) / (2 : Int64)))))] [] S_10 0 0)))))) ∧ (¬ 0 ≤ (lg_cmp (oJ (vint B_7 q_9 p_8).1) (0 : Int64)) → (([] : List MV) = [] ∧ mret (some .boolean) (sp_rrop t F z Y R kz r B cA cE A n) [.inr (.inr (some t))] S (some (.inl (0 : Int32))) S_10 0 0)))))))))
      obtain ⟨hM, ⟨r1, r2, hC, hc⟩, hA, hAA, hn, hn9⟩ := hp
      obtain ⟨hK, ⟨x1, x2, x3, x4, x5, x6⟩, hO⟩ := id hB
      have M1 := hK.md hM (by decide) (by decide)
      have hB8 : B.length ≤ 32768 := r2.2.2.1
      have hk40 : kz 40 ≤ 131072 := (M1 11).2.2.2.1
      have hAl := hA.2.1
      obtain ⟨e1, hDk, he1, he2, hI⟩ := id hF
      rw [(hK.2.1 _ (by decide)).trans hA.1, x3, x4, (hK.2.1 _ (by decide)).trans hn, nI_l (by omega)]
      refine ⟨(M1 0).1, if_le (by omega) (by omega) (fun w => ?_) (fun w => ?_)⟩
      · have k00 : k0 = 0 := by omega
        subst k00
        have en : nop B cA cE A = some (D, I, p) := e1
        have po : ∀ x, nop B cA cE A = some x → x.1.length = A.length ∧ oqP S1 z x.1 := fun x ex => by
          rw [en] at ex
          cases ex
          exact ⟨by show D.length = A.length; omega, hO⟩
        have h0 : lg_cmp (lN I) (lN n) = 0 ↔ I = n := (lgc (by omega) (by omega)).2
        have rt : ∀ b : Bool, decide (p = cE 3 ∧ I = n) = b → bI (opV (nop B cA cE A) (cE 3) n) = bI b := fun b hb => by rw [en, ← hb]; rfl
        refine ⟨(M1 0).1, (M1 0).1, if_ne (by omega) (by omega) (fun w2 => ⟨rfl, rt0, ⟨by rw [rt false (decide_eq_false (fun q => w2 q.1))]; rfl, hK, po⟩, Nat.le_refl _, Nat.le_refl _⟩) (fun w2 => ⟨(M1 0).1, fun q => ⟨rfl, rt0, ⟨by rw [rt false (decide_eq_false (fun w3 => q (h0.2 w3.2)))]; rfl, hK, po⟩, Nat.le_refl _, Nat.le_refl _⟩, fun q => ⟨rfl, rt1, ⟨by rw [rt true (decide_eq_true ⟨w2, h0.1 q⟩)]; rfl, hK, po⟩, Nat.le_refl _, Nat.le_refl _⟩⟩)⟩
      · obtain ⟨k0, rfl⟩ : ∃ k', k0 = k' + 1 := ⟨k0 - 1, by omega⟩
        refine ⟨rfl, F, z, Y, R, kz, r, B, p, cE 3, ⟨M1, x1, x2, x3, x4, x5, x6⟩, Nat.le_refl _, Nat.le_refl _, fun S10 hq => ?_⟩
        obtain ⟨p', a1, a2, hB2, hp'⟩ := hB.nu hM hq
        cases hv : (vint B (cE 3) p).1 with
        | none => exact ⟨fun q => absurd q (by decide), fun _ => rrop_bad hB2.1 (e1.trans (rdOq_1 (rdO_1 hv)))⟩
        | some c =>
          have hlt := vint_lt r2.2.2.2.1 hv
          have hp9 := hp' c hv
          subst hp9
          have a1 : oJ (some c) / 3 = lN (c / 3) := lN_div (b := 3) (by omega) (by decide)
          have a2 : lN (c / 3) &&& 1 = lN (c / 3 % 2) := lA_1 (by omega)
          have h0 : lg_cmp (lN (c / 3 % 2)) 0 = 0 ↔ c / 3 % 2 = 0 := (lgc (a := c / 3 % 2) (b := 0) (by omega) (by decide)).2
          have hz := zz_J e hlt
          have fin : ∀ v, v = lZ (e + zz c) → ∃ k1, k1 < 10 * (k0 + 1) ∧ I_rop2 t r z B cA cE A S k1 [(0, .inr (.inr (some t))), (3, .inr (.inl (lN I))), (5, .inl (nI D.length)), (6, .inr (.inl (oJ (some c)))), (10, .inr (.inl v))] [] S10 0 0 := fun v ev => ⟨10 * k0 + 9, by omega, k0, p, e, I, D, c, rfl, hF, hv, hB2, by rw [ev]; rfl, rfl, rfl, rfl⟩
          refine ⟨fun _ => ⟨by decide, ?_⟩, fun q => absurd ((lgg (a := c) (b := 0) (by omega) (by decide)).2 (Nat.zero_le _)) q⟩
          rw [show (oJ (some c) / 3) &&& 1 = lN (c / 3 % 2) by rw [a1, a2]]
          exact ⟨fun q => ⟨by decide, fin _ (hz.2 (fun w => q (h0.2 w)))⟩, fun q => ⟨by decide, fin _ (hz.1 (h0.1 q))⟩⟩
    · cases hm
      obtain ⟨k0, p, e, I, D, c, rfl, hF, hv, hB, rfl, rfl, rfl, rfl⟩ := h
      refine ⟨300, ?_⟩
      show (isO S1 15 t ∧ (¬ (3 : Int64) = 0 ∧ (pa (mR S1 1541 t) fun a_1 => isO S1 17 a_1 ∧ inR S1 a_1 (nI D.length) ∧ (isO (rI S1 a_1 (upd (eI S1 a_1) (nI D.length).toNatClampNeg (((lN c) - (lN c) / (3 : Int64) * (3 : Int64)).toInt32))) 15 t ∧ (pa (mR (rI S1 a_1 (upd (eI S1 a_1) (nI D.length).toNatClampNeg (((lN c) - (lN c) / (3 : Int64) * (3 : Int64)).toInt32))) 1546 t) fun a_2 => isO (rI S1 a_1 (upd (eI S1 a_1) (nI D.length).toNatClampNeg (((lN c) - (lN c) / (3 : Int64) * (3 : Int64)).toInt32))) 18 a_2 ∧ inR (rI S1 a_1 (upd (eI S1 a_1) (nI D.length).toNatClampNeg (((lN c) - (lN c) / (3 : Int64) * (3 : Int64)).toInt32))) a_2 (nI D.length) ∧ (∃ k1, k1 < 10 * k0 + 9 ∧ I_rop3 t r z B cA cE A S k1 [(0, .inr (.inr (some t))), (3, .inr (.inl (lN I))), (5, .inl (nI D.length)), (10, .inr (.inl (lZ (e + zz c))))] [] (rJ (rI S1 a_1 (upd (eI S1 a_1) (nI D.length).toNatClampNeg (((lN c) - (lN c) / (3 : Int64) * (3 : Int64)).toInt32))) a_2 (vp_updL (eJ (rI S1 a_1 (upd (eI S1 a_1) (nI D.length).toNatClampNeg (((lN c) - (lN c) / (3 : Int64) * (3 : Int64)).toInt32))) a_2) (nI D.length).toNatClampNeg (lZ (e + zz c)))) 0 0))))))
      obtain ⟨hM, ⟨r1, r2, hC, hc⟩, hA, hAA, hn, hn9⟩ := hp
      obtain ⟨hK, hR, hO⟩ := id hB
      have M1 := hK.md hM (by decide) (by decide)
      have hk40 : kz 40 ≤ 131072 := (M1 11).2.2.2.1
      have hAl := hA.2.1
      obtain ⟨e1, hDk, he1, he2, hI⟩ := id hF
      have hlt := vint_lt r2.2.2.2.1 hv
      have r41 := M1 1 41 (by decide)
      have r46 := M1 1 46 (by decide)
      have n41 : mN S1 (z 41) = kz 40 := r41.2.2.2
      have n46 : mN S1 (z 46) = kz 40 := r46.2.2.2
      have cl : (nI D.length).toNatClampNeg = D.length := nI_clamp (by omega)
      rw [lN_rem3 hlt, cl]
      have key : ∀ S9, S9 = rJ (rI S1 (z 41) (upd (eI S1 (z 41)) D.length (nI (c % 3)))) (z 46) (vp_updL (eJ S1 (z 46)) D.length (lZ (e + zz c))) → rqB S S9 t r z B (vint B (cE 3) p).2 (cE 3) (D ++ [(c % 3, e + zz c)]) := fun S9 es => by
        subst es
        have k9 : rK rqD [] S1 (rJ (rI S1 (z 41) (upd (eI S1 (z 41)) D.length (nI (c % 3)))) (z 46) (vp_updL (eJ S1 (z 46)) D.length (lZ (e + zz c)))) t z := ⟨Keep.rJ (P := fun c => c = t ∨ ∃ k, k ∈ rqD ∧ c = z k) (Keep.rI (P := fun c => c = t ∨ ∃ k, k ∈ rqD ∧ c = z k) Keep.rf (Or.inr ⟨41, by decide, rfl⟩)) (Or.inr ⟨46, by decide, rfl⟩), fun _ _ => rfl, fun _ => rfl⟩
        have g9 : rG rqD [] S1 (rJ (rI S1 (z 41) (upd (eI S1 (z 41)) D.length (nI (c % 3)))) (z 46) (vp_updL (eJ S1 (z 46)) D.length (lZ (e + zz c)))) F F t z z := k9.rg
        refine ⟨hK.tr (k9.mono (fun k hk => hk) (fun f hf => by cases hf)), hR.rg g9 M1 (by decide) (by decide) (by decide), fun j hj => ?_⟩
        rw [List.length_append] at hj
        have hj : j < D.length + 1 := hj
        show eI (rI S1 (z 41) _) (z 41) j = _ ∧ eJ (rJ S1 (z 46) _) (z 46) j = _
        rw [eI_rI, if_pos rfl, eJ_rJ, if_pos rfl, upd, vp_updL]
        by_cases w : j = D.length
        · rw [if_pos w, if_pos w, w, List.getD_eq_getElem?_getD, List.getElem?_append_right (Nat.le_refl _), Nat.sub_self]
          exact ⟨rfl, rfl⟩
        · rw [if_neg w, if_neg w, List.getD_eq_getElem?_getD, List.getElem?_append_left (by omega), ← List.getD_eq_getElem?_getD]
          exact hO j (by omega)
      exact ⟨(M1 0).1, by decide, pa_i r41.1 ⟨r41.2.2.1, inRn n41 (by omega) (by omega), (M1 0).1, pa_i r46.1 ⟨r46.2.2.1, inRn (S := S1) n46 (by omega) (by omega), 10 * k0 + 8, by omega, k0, p, e, I, D, c, rfl, hF, hv, key _ rfl, rfl, rfl, rfl, rfl⟩⟩⟩
    · cases hm
      obtain ⟨k0, p, e, I, D, c, rfl, hF, hv, hB, rfl, rfl, rfl, rfl⟩ := h
      refine ⟨300, ?_⟩
      show (((lg_cmp (lZ (e + zz c)) (0 : Int64)) < 0 → (([] : List MV) = [] ∧ mret (some .boolean) (sp_rrop t F z Y R kz r B cA cE A n) [.inr (.inr (some t))] S (some (.inl (0 : Int32))) S1 0 0)) ∧ (¬ (lg_cmp (lZ (e + zz c)) (0 : Int64)) < 0 → (isO S1 15 t ∧ (pa (mR S1 1541 t) fun a_1 => ∃ v_2 : Int32, (isO S1 17 a_1 ∧ inR S1 a_1 (nI D.length) ∧ v_2 = eI S1 a_1 (nI D.length).toNatClampNeg ∨ a_1 = (mQ S1).1 ∧ vp_in (nI D.length) 16 ∧ v_2 = mRem (nI D.length).toNatClampNeg) ∧ ((¬ v_2 = (2 : Int32) → (isO S1 15 t ∧ (pa (mR S1 1541 t) fun a_3 => ∃ v_4 : Int32, (isO S1 17 a_3 ∧ inR S1 a_3 (nI D.length) ∧ v_4 = eI S1 a_3 (nI D.length).toNatClampNeg ∨ a_3 = (mQ S1).1 ∧ vp_in (nI D.length) 16 ∧ v_4 = mRem (nI D.length).toNatClampNeg) ∧ ((¬ v_4 = 0 → (∃ k1, k1 < 10 * k0 + 8 ∧ I_rop4 t r z B cA cE A S k1 [(0, .inr (.inr (some t))), (3, .inr (.inl (lN I))), (5, .inl (nI D.length)), (10, .inr (.inl (lZ (e + zz c))))] [] S1 0 0)) ∧ (v_4 = 0 → (isO S1 15 t ∧ (pa (mR S1 1545 t) fun a_5 => isO S1 18 a_5 ∧ inR S1 a_5 (nI D.length) ∧ (∃ k1, k1 < 10 * k0 + 8 ∧ I_rop4 t r z B cA cE A S k1 [(0, .inr (.inr (some t))), (3, .inr (.inl ((lN I) + (eJ S1 a_5 (nI D.length).toNatClampNeg)))), (5, .inl (nI D.length)), (10, .inr (.inl (lZ (e + zz c))))] [] S1 0 0)))))))) ∧ (v_2 = (2 : Int32) → (isO S1 15 t ∧ (pa (mR S1 1545 t) fun a_6 => isO S1 18 a_6 ∧ inR S1 a_6 (nI D.length) ∧ ((0 ≤ (lg_cmp ((lZ (e + zz c)) - ((eJ S1 a_6 (nI D.length).toNatClampNeg) - (1 : Int64))) (0 : Int64)) → (isO S1 15 t ∧ (pa (mR S1 1541 t) fun a_7 => ∃ v_8 : Int32, (isO S1 17 a_7 ∧ inR S1 a_7 (nI D.length) ∧ v_8 = eI S1 a_7 (nI D.length).toNatClampNeg ∨ a_7 = (mQ S1).1 ∧ vp_in (nI D.length) 16 ∧ v_8 = mRem (nI D.length).toNatClampNeg) ∧ ((¬ v_8 = 0 → (∃ k1, k1 < 10 * k0 + 8 ∧ I_rop4 t r z B cA cE A S k1 [(0, .inr (.inr (some t))), (3, .inr (.inl (lN I))), (5, .inl (nI D.length)), (10, .inr (.inl (lZ (e + zz c))))] [] S1 0 0)) ∧ (v_8 = 0 → (isO S1 15 t ∧ (pa (mR S1 1545 t) fun a_9 => isO S1 18 a_9 ∧ inR S1 a_9 (nI D.length) ∧ (∃ k1, k1 < 10 * k0 + 8 ∧ I_rop4 t r z B cA cE A S k1 [(0, .inr (.inr (some t))), (3, .inr (.inl ((lN I) + (eJ S1 a_9 (nI D.length).toNatClampNeg)))), (5, .inl (nI D.length)), (10, .inr (.inl (lZ (e + zz c))))] [] S1 0 0)))))))) ∧ (¬ 0 ≤ (lg_cmp ((lZ (e + zz c)) - ((eJ S1 a_6 (nI D.length).toNatClampNeg) - (1 : Int64))) (0 : Int64)) → (([] : List MV) = [] ∧ mret (some .boolean) (sp_rrop t F z Y R kz r B cA cE A n) [.inr (.inr (some t))] S (some (.inl (0 : Int32))) S1 0 0)))))))))))
      obtain ⟨hM, ⟨r1, r2, hC, hc⟩, hA, hAA, hn, hn9⟩ := hp
      obtain ⟨hK, hR, hO⟩ := id hB
      have M1 := hK.md hM (by decide) (by decide)
      have hk40 : kz 40 ≤ 131072 := (M1 11).2.2.2.1
      have hAl := hA.2.1
      obtain ⟨e1, hDk, he1, he2, hI⟩ := id hF
      have hlt := vint_lt r2.2.2.2.1 hv
      have hzb := zz_b hlt
      have r41 := M1 1 41 (by decide)
      have r45 := M1 1 45 (by decide)
      have n41 : mN S1 (z 41) = kz 40 := r41.2.2.2
      have n45 : mN S1 (z 45) = kz 40 := r45.2.2.2
      have cl : (nI D.length).toNatClampNeg = D.length := nI_clamp (by omega)
      have hj : D.length < A.length := by omega
      have hm : A.getD D.length (0, 0, 0) ∈ A := by
        rw [List.getD_eq_getElem?_getD, List.getElem?_eq_getElem hj]
        exact List.getElem_mem hj
      obtain ⟨t1, t2, t3, t4⟩ := hAA _ hm
      have e45 : eJ S1 (z 45) D.length = lN (A.getD D.length (0, 0, 0)).2.2 := by
        rw [(hK.row hM (by decide) (j := 45) (by decide) (by decide)).2.1]
        exact (hA.2.2 D.length hj).2.2
      have e41 : eI S1 (z 41) D.length = nI (c % 3) := by
        have := (hO D.length (by rw [List.length_append]; exact Nat.lt_succ_self _)).1
        rw [List.getD_eq_getElem?_getD, List.getElem?_append_right (Nat.le_refl _), Nat.sub_self] at this
        exact this
      have c3 : c % 3 < 3 := Nat.mod_lt _ (by decide)
      have hlt0 : lg_cmp (lZ (e + zz c)) 0 < 0 ↔ e + zz c < 0 := lZ_lt0 (by omega) (by omega)
      have bad : ¬ (0 ≤ e + zz c ∧ 0 ≤ e + zz c + opS (c % 3) * (((A.getD D.length (0, 0, 0)).2.2 : Int) - 1)) → nop B cA cE A = none := fun w => e1.trans (rdOq_1 (rdO_2 hv w))
      have go4 : (0 ≤ e + zz c ∧ 0 ≤ e + zz c + opS (c % 3) * (((A.getD D.length (0, 0, 0)).2.2 : Int) - 1)) → ∀ v, v = lN (I + if c % 3 = 0 then (A.getD D.length (0, 0, 0)).2.2 else 0) → ∃ k1, k1 < 10 * k0 + 8 ∧ I_rop4 t r z B cA cE A S k1 [(0, .inr (.inr (some t))), (3, .inr (.inl v)), (5, .inl (nI D.length)), (10, .inr (.inl (lZ (e + zz c))))] [] S1 0 0 := fun w v ev => ⟨10 * k0 + 7, by omega, k0, p, e, I, D, c, rfl, hF, hv, rdO_3 hv w, hB, by rw [ev], rfl, rfl, rfl⟩
      refine ⟨fun q => rrop_bad hK (bad (fun w => by have := hlt0.1 q; omega)), fun q => ?_⟩
      have hx0 : 0 ≤ e + zz c := Int.not_lt.1 (fun w => q (hlt0.2 w))
      have i41 : inR S1 (z 41) (nI D.length) := inRn n41 (by omega) (by omega)
      have i45 : inR S1 (z 45) (nI D.length) := inRn n45 (by omega) (by omega)
      refine ⟨(M1 0).1, rdI (v := nI (c % 3)) r41.1 r41.2.2.1 i41 (by rw [cl]; exact e41) (if_ne (b := 2) (by omega) (by decide) (fun w2 => ⟨(M1 0).1, rdI (v := nI (c % 3)) r41.1 r41.2.2.1 i41 (by rw [cl]; exact e41) (if_ne (b := 0) (by omega) (by decide) (fun w0 => go4 ⟨hx0, ?_⟩ _ ?_) (fun w0 => ⟨(M1 0).1, pa_i r45.1 ⟨r45.2.2.1, i45, go4 ⟨hx0, ?_⟩ _ ?_⟩⟩))⟩) (fun w2 => ⟨(M1 0).1, pa_i r45.1 ⟨r45.2.2.1, i45, ?_⟩⟩))⟩
      · have e9 : opS (c % 3) = 0 := by unfold opS; rw [if_neg w0, if_pos (by omega)]
        rw [e9, Int.zero_mul]; omega
      · rw [if_neg w0]; rfl
      · have e9 : opS (c % 3) = 1 := by unfold opS; rw [if_pos w0]
        rw [e9, Int.one_mul]; omega
      · rw [if_pos w0, cl, e45, lN_plus]
      · have e9 : opS (c % 3) = -1 := by unfold opS; rw [if_neg (by omega), if_neg (by omega)]
        have es : lZ (e + zz c) - (lN (A.getD D.length (0, 0, 0)).2.2 - 1) = lZ (e + zz c - (((A.getD D.length (0, 0, 0)).2.2 : Int) - 1)) := by
          rw [show (1 : Int64) = lN 1 from rfl, lN_mi t3, lN_Z, show ((((A.getD D.length (0, 0, 0)).2.2 - 1 : Nat) : Int)) = ((A.getD D.length (0, 0, 0)).2.2 : Int) - 1 by omega]
          exact (Int64.ofInt_sub _ _).symm
        rw [show eJ S1 (z 45) (nI D.length).toNatClampNeg = lN (A.getD D.length (0, 0, 0)).2.2 from by rw [cl]; exact e45, es]
        have hl9 : lg_cmp (lZ (e + zz c - (((A.getD D.length (0, 0, 0)).2.2 : Int) - 1))) 0 < 0 ↔ e + zz c - (((A.getD D.length (0, 0, 0)).2.2 : Int) - 1) < 0 := lZ_lt0 (by omega) (by omega)
        refine ⟨fun q2 => ⟨(M1 0).1, rdI (v := nI (c % 3)) r41.1 r41.2.2.1 i41 (by rw [cl]; exact e41) (if_ne (b := 0) (by omega) (by decide) (fun w0 => go4 ⟨hx0, ?_⟩ _ ?_) (fun w0 => absurd w0 (by omega)))⟩, fun q2 => rrop_bad hK (bad (fun w => ?_))⟩
        · have q3 : ¬ e + zz c - (((A.getD D.length (0, 0, 0)).2.2 : Int) - 1) < 0 := fun w => absurd (hl9.2 w) (Int32.not_lt.2 q2)
          rw [e9]; omega
        · rw [if_neg w0]; rfl
        · have q3 := hl9.1 (Int32.not_le.1 q2)
          have w1 := w.2
          rw [e9] at w1
          omega
    · cases hm
      obtain ⟨k0, p, e, I, D, c, rfl, hF, hv, hO3, hB, rfl, rfl, rfl, rfl⟩ := h
      refine ⟨300, ?_⟩
      show (isO S1 15 t ∧ (pa (mR S1 1541 t) fun a_1 => ∃ v_2 : Int32, (isO S1 17 a_1 ∧ inR S1 a_1 (nI D.length) ∧ v_2 = eI S1 a_1 (nI D.length).toNatClampNeg ∨ a_1 = (mQ S1).1 ∧ vp_in (nI D.length) 16 ∧ v_2 = mRem (nI D.length).toNatClampNeg) ∧ ((¬ v_2 = 0 → (isO S1 15 t ∧ (pa (mR S1 1541 t) fun a_3 => ∃ v_4 : Int32, (isO S1 17 a_3 ∧ inR S1 a_3 (nI D.length) ∧ v_4 = eI S1 a_3 (nI D.length).toNatClampNeg ∨ a_3 = (mQ S1).1 ∧ vp_in (nI D.length) 16 ∧ v_4 = mRem (nI D.length).toNatClampNeg) ∧ ((¬ v_4 = (1 : Int32) → (isO S1 15 t ∧ (pa (mR S1 1545 t) fun a_5 => isO S1 18 a_5 ∧ inR S1 a_5 (nI D.length) ∧ (∃ k1, k1 < 10 * k0 + 7 ∧ I_rop1 t r z B cA cE A S k1 [(0, .inr (.inr (some t))), (1, .inr (.inl ((lZ (e + zz c)) + (-(eJ S1 a_5 (nI D.length).toNatClampNeg))))), (3, .inr (.inl (lN (I + if c % 3 = 0 then (A.getD D.length (0, 0, 0)).2.2 else 0)))), (5, .inl ((nI D.length) + (1 : Int32)))] [] S1 0 0)))) ∧ (v_4 = (1 : Int32) → (∃ k1, k1 < 10 * k0 + 7 ∧ I_rop1 t r z B cA cE A S k1 [(0, .inr (.inr (some t))), (1, .inr (.inl ((lZ (e + zz c)) + (0 : Int64)))), (3, .inr (.inl (lN (I + if c % 3 = 0 then (A.getD D.length (0, 0, 0)).2.2 else 0)))), (5, .inl ((nI D.length) + (1 : Int32)))] [] S1 0 0)))))) ∧ (v_2 = 0 → (isO S1 15 t ∧ (pa (mR S1 1545 t) fun a_6 => isO S1 18 a_6 ∧ inR S1 a_6 (nI D.length) ∧ (∃ k1, k1 < 10 * k0 + 7 ∧ I_rop1 t r z B cA cE A S k1 [(0, .inr (.inr (some t))), (1, .inr (.inl ((lZ (e + zz c)) + (eJ S1 a_6 (nI D.length).toNatClampNeg)))), (3, .inr (.inl (lN (I + if c % 3 = 0 then (A.getD D.length (0, 0, 0)).2.2 else 0)))), (5, .inl ((nI D.length) + (1 : Int32)))] [] S1 0 0)))))))
      obtain ⟨hM, ⟨r1, r2, hC, hc⟩, hA, hAA, hn, hn9⟩ := hp
      obtain ⟨hK, hR, hO⟩ := id hB
      have M1 := hK.md hM (by decide) (by decide)
      have hk40 : kz 40 ≤ 131072 := (M1 11).2.2.2.1
      have hAl := hA.2.1
      obtain ⟨e1, hDk, he1, he2, hI⟩ := id hF
      have hlt := vint_lt r2.2.2.2.1 hv
      have hzb := zz_b hlt
      have r41 := M1 1 41 (by decide)
      have r45 := M1 1 45 (by decide)
      have n41 : mN S1 (z 41) = kz 40 := r41.2.2.2
      have n45 : mN S1 (z 45) = kz 40 := r45.2.2.2
      have cl : (nI D.length).toNatClampNeg = D.length := nI_clamp (by omega)
      have hj : D.length < A.length := by omega
      have hm : A.getD D.length (0, 0, 0) ∈ A := by
        rw [List.getD_eq_getElem?_getD, List.getElem?_eq_getElem hj]
        exact List.getElem_mem hj
      obtain ⟨t1, t2, t3, t4⟩ := hAA _ hm
      have e45 : eJ S1 (z 45) D.length = lN (A.getD D.length (0, 0, 0)).2.2 := by
        rw [(hK.row hM (by decide) (j := 45) (by decide) (by decide)).2.1]
        exact (hA.2.2 D.length hj).2.2
      have e41 : eI S1 (z 41) D.length = nI (c % 3) := by
        have := (hO D.length (by rw [List.length_append]; exact Nat.lt_succ_self _)).1
        rw [List.getD_eq_getElem?_getD, List.getElem?_append_right (Nat.le_refl _), Nat.sub_self] at this
        exact this
      have c3 : c % 3 < 3 := Nat.mod_lt _ (by decide)
      have i41 : inR S1 (z 41) (nI D.length) := inRn n41 (by omega) (by omega)
      have i45 : inR S1 (z 45) (nI D.length) := inRn n45 (by omega) (by omega)
      have el : (D ++ [(c % 3, e + zz c)]).length = D.length + 1 := by rw [List.length_append]; rfl
      have hif : (if c % 3 = 0 then (A.getD D.length (0, 0, 0)).2.2 else 0) ≤ 8192 := by split <;> omega
      have ob : -8192 ≤ opS (c % 3) * ((A.getD D.length (0, 0, 0)).2.2 : Int) ∧ opS (c % 3) * ((A.getD D.length (0, 0, 0)).2.2 : Int) ≤ 8192 := by
        rcases opS_b (c % 3) with w | w | w <;> rw [w] <;> omega
      have fin : ∀ v, v = lZ (e + zz c + opS (c % 3) * (A.getD D.length (0, 0, 0)).2.2) → ∃ k1, k1 < 10 * k0 + 7 ∧ I_rop1 t r z B cA cE A S k1 [(0, .inr (.inr (some t))), (1, .inr (.inl v)), (3, .inr (.inl (lN (I + if c % 3 = 0 then (A.getD D.length (0, 0, 0)).2.2 else 0)))), (5, .inl (nI D.length + 1))] [] S1 0 0 := fun v ev => by
        refine ⟨10 * k0, by omega, k0, (vint B (cE 3) p).2, e + zz c + opS (c % 3) * (A.getD D.length (0, 0, 0)).2.2, I + if c % 3 = 0 then (A.getD D.length (0, 0, 0)).2.2 else 0, D ++ [(c % 3, e + zz c)], rfl, ⟨e1.trans (rdOq_2 hO3), by rw [el]; omega, by rw [el]; omega, by rw [el]; omega, by rw [el]; omega⟩, hB, by rw [ev, el, nI_1], rfl, rfl, rfl⟩
      refine ⟨(M1 0).1, rdI (v := nI (c % 3)) r41.1 r41.2.2.1 i41 (by rw [cl]; exact e41) (if_ne (b := 0) (by omega) (by decide) (fun w0 => ⟨(M1 0).1, rdI (v := nI (c % 3)) r41.1 r41.2.2.1 i41 (by rw [cl]; exact e41) (if_ne (b := 1) (by omega) (by decide) (fun w1 => ⟨(M1 0).1, pa_i r45.1 ⟨r45.2.2.1, i45, fin _ ?_⟩⟩) (fun w1 => fin _ ?_))⟩) (fun w0 => ⟨(M1 0).1, pa_i r45.1 ⟨r45.2.2.1, i45, fin _ ?_⟩⟩))⟩
      · have e9 : opS (c % 3) = -1 := by unfold opS; rw [if_neg w0, if_neg w1]
        rw [cl, e45, e9, lN_Z, show -lZ ((A.getD D.length (0, 0, 0)).2.2 : Int) = lZ (-((A.getD D.length (0, 0, 0)).2.2 : Int)) from (Int64.ofInt_neg _).symm, lZ_add]
        exact congrArg lZ (by omega)
      · have e9 : opS (c % 3) = 0 := by unfold opS; rw [if_neg w0, if_pos w1]
        rw [e9, Int.zero_mul, show (0 : Int64) = lZ 0 from rfl, lZ_add]
      · have e9 : opS (c % 3) = 1 := by unfold opS; rw [if_pos w0]
        rw [cl, e45, e9, Int.one_mul, lN_Z, lZ_add]
theorem u_rrop (l : Launch) : Us l yX14_readOps cX14_readOps 12 (some .boolean) 1 24 15 T_rrop := by
  intro Rc Rs av S cs sl K Kx h
  unfold T_rrop at h
  split at h
  · rename_i t_o
    obtain ⟨t, rfl, h_1⟩ := pa_of h
    obtain ⟨F, z, Y, R, kz, r, B, cA, cE, A, n, hp, hc, hs, hk⟩ := h_1
    refine ⟨(sp_rrop t F z Y R kz r B cA cE A n), c_rrop l t F z Y R kz r B cA cE A n, fun _ _ h9 => ⟨_, _, h9.1, (h9.2.1 0).1⟩, ⟨rfl, hp⟩, hc, hs, fun v9 S' h8 => by
      obtain ⟨h7, h8⟩ := h8
      cases h7
      exact hk _ h8, fun _ _ q => q.elim⟩
  · exact h.elim
