/-! ===== The reference unpacks ===== -/
theorem lB_1 {m : Nat} (h : m < 2 ^ 63) : lN m >>> ((1 : Int32).toInt64 &&& 63) = lN (m / 2) := by
  rw [show ((1 : Int32).toInt64 &&& 63) = 1 from by decide]
  apply Int64.toBitVec_inj.1
  rw [Int64.toBitVec_shiftRight, show ((1 : Int64).toBitVec.smod 64) = 1#64 from by decide]
  apply BitVec.eq_of_toNat_eq
  have hb : (lN m).toBitVec.msb = false := by
    rw [BitVec.msb_eq_decide, lB_nat h]
    exact decide_eq_false (by omega)
  rw [BitVec.sshiftRight', BitVec.sshiftRight_eq_of_msb_false hb, BitVec.toNat_ushiftRight, lB_nat h, lB_nat (by omega)]
  exact Nat.shiftRight_eq_div_pow m 1
theorem lA_1 {m : Nat} (h : m < 2 ^ 63) : lN m &&& 1 = lN (m % 2) := by
  apply Int64.toBitVec_inj.1
  rw [Int64.toBitVec_and]
  apply BitVec.eq_of_toNat_eq
  rw [BitVec.toNat_and, lB_nat h, lB_nat (by omega)]
  exact Nat.and_two_pow_sub_one_eq_mod m 1
theorem lN_mi {a b : Nat} (h : b ≤ a) : lN a - lN b = lN (a - b) := by
  obtain ⟨c, rfl⟩ : ∃ c, a = c + b := ⟨a - b, by omega⟩
  rw [← lN_plus, Int64.add_sub_cancel, Nat.add_sub_cancel]
/-- the plain bytes -/
def pnP (S : MM) (t : Nat) (z : Nat → Nat) (P : List Nat) : Prop := mI S 1520 t = nI P.length ∧ P.length ≤ 32768 ∧ (∀ x, x ∈ P → x < 256) ∧ ∀ j, j < P.length → eI S (z 19) j &&& 255 = nI (P.getD j 0)
def ufs : List Nat := [1520, 1535, 1536]
def I_up1 (t r : Nat) (z : Nat → Nat) (B : List Nat) (cA cE : Nat → Nat) (S : MM) (k : Nat) : KT := fun lo st S1 cs sl => ∃ (n : Nat) (P : List Nat) (p f : Nat), k = 40000 * f + 39999 ∧ n ≤ 32768 ∧ P.length ≤ n ∧ n + 1 ≤ P.length + f ∧ upk B (cE 4) (cA 4) = upkF B (cE 4) n f P p ∧ rcX [19] ufs S S1 t r z B p (cE 4) ∧ pnP S1 t z P ∧ lo = [(0, .inr (.inr (some t))), (1, .inr (.inl (lN n)))] ∧ st = [] ∧ cs = 0 ∧ sl = 0
def I_up2 (t r : Nat) (z : Nat → Nat) (B : List Nat) (cA cE : Nat → Nat) (S : MM) (k : Nat) : KT := fun lo st S1 cs sl => ∃ (n : Nat) (P : List Nat) (p f m d j : Nat), k = 40000 * (f + 1) + (m - j) ∧ n ≤ 32768 ∧ P.length + m ≤ n ∧ n + 1 ≤ P.length + (f + 1) ∧ 4 ≤ m ∧ 1 ≤ d ∧ d ≤ P.length ∧ j ≤ m ∧ upk B (cE 4) (cA 4) = upkF B (cE 4) n f (P ++ repW P d m) p ∧ rcX [19] ufs S S1 t r z B p (cE 4) ∧ pnP S1 t z (P ++ repW P d j) ∧ lo = [(0, .inr (.inr (some t))), (1, .inr (.inl (lN n))), (5, .inr (.inl (lN m))), (7, .inr (.inl (lN d))), (9, .inl (nI j))] ∧ st = [] ∧ cs = 0 ∧ sl = 0
theorem pnP.app {S S' : MM} {F : Nat → Nat × Nat} {t : Nat} {z : Nat → Nat} {P Q : List Nat} (h : pnP S t z P) (h20 : mI S' 1520 t = nI (P ++ Q).length) (hl : (P ++ Q).length ≤ 32768) (hQ : ∀ x ∈ Q, x < 256) (h1 : ∀ j, j < P.length → eI S' (z 19) j = eI S (z 19) j) (h2 : ∀ j, j < Q.length → eI S' (z 19) (P.length + j) &&& 255 = nI (Q.getD j 0)) : pnP S' t z (P ++ Q) := by
  refine ⟨h20, hl, fun x hx => ?_, fun j hj => ?_⟩
  · rcases List.mem_append.1 hx with e | e
    · exact h.2.2.1 x e
    · exact hQ x e
  · rw [List.length_append] at hj
    by_cases c : j < P.length
    · rw [h1 j c, getD_app_l c]; exact h.2.2.2 j c
    · obtain ⟨i, rfl⟩ : ∃ i, j = P.length + i := ⟨j - P.length, by omega⟩
      rw [h2 i (by omega), getD_app_r]
def T_rup : TR := fun Rc Rs av S cs sl K _Kx => match av with
  | [.inr (.inr t_o)] => pa t_o fun t => (∃ (F : Nat → Nat × Nat) (z : Nat → Nat) (Y : Nat → Nat → Nat) (R : Rb) (kz : Nat → Nat) (r : Nat) (B : List Nat) (cA cE : Nat → Nat), (MD S F t z Y R kz ∧ rdC S t r z B cA cE ∧ r ≠ z 19 ∧ (∀ j, fits .byte (.int (eI S r j)) = true)) ∧ cs ≤ Rc ∧ sl ≤ Rs ∧ (∀ (S' : MM), (rK [19] ufs S S' t z ∧ ((upk B (cE 4) (cA 4)).1 = true → pnP S' t z (upk B (cE 4) (cA 4)).2.1)) → K (some (.inl (bI (upk B (cE 4) (cA 4)).1))) S' cs sl))
  | _ => False
def sp_rup (t : Nat) (F : Nat → Nat × Nat) (z : Nat → Nat) (Y : Nat → Nat → Nat) (R : Rb) (kz : Nat → Nat) (r : Nat) (B : List Nat) (cA cE : Nat → Nat) : Sp := (fun av S => av = [.inr (.inr (some t))] ∧ (MD S F t z Y R kz ∧ rdC S t r z B cA cE ∧ r ≠ z 19 ∧ (∀ j, fits .byte (.int (eI S r j)) = true)), fun _ S => 0, fun _ S => 0, fun _ S rv S' => rv = (some (.inl (bI (upk B (cE 4) (cA 4)).1))) ∧ (rK [19] ufs S S' t z ∧ ((upk B (cE 4) (cA 4)).1 = true → pnP S' t z (upk B (cE 4) (cA 4)).2.1)), fun _ _ _ _ => False)
def tX14_unpack : CD := [(0, .aload_n 0), (1, .iconst 4), (2, .invokevirtual 458), (5, .aload_n 0), (6, .invokevirtual 431), (9, .lstore_n 1), (10, .lload_n 1), (11, .lconst 0), (12, .lcmp), (13, .ifCond .lt 11), (16, .lload_n 1), (17, .ldc2_w 463), (20, .lcmp), (21, .ifCond .le 5), (24, .iconst 0), (25, .ireturn), (26, .aload_n 0), (27, .iconst 0), (28, .putfield 443), (31, .aload_n 0), (32, .getfield 443), (35, .i2l), (36, .lload_n 1), (37, .lcmp), (38, .ifCond .ge 204), (41, .aload_n 0), (42, .invokevirtual 431), (45, .lstore_n 3), (46, .lload_n 3), (47, .iconst 1), (48, .lshr), (49, .lstore 5), (51, .lload_n 3), (52, .lconst 0), (53, .lcmp), (54, .ifCond .lt 16), (57, .lload 5), (59, .lload_n 1), (60, .aload_n 0), (61, .getfield 443), (64, .i2l), (65, .lsub), (66, .lcmp), (67, .ifCond .le 5), (70, .iconst 0), (71, .ireturn), (72, .lload_n 3), (73, .lconst 1), (74, .land), (75, .lconst 0), (76, .lcmp), (77, .ifCond .ne 77), (80, .lload 5), (82, .lconst 1), (83, .lcmp), (84, .ifCond .lt 19), (87, .lload 5), (89, .aload_n 0), (90, .getfield 401), (93, .aload_n 0), (94, .getfield 398), (97, .isub), (98, .i2l), (99, .lcmp), (100, .ifCond .le 5), (103, .iconst 0), (104, .ireturn), (105, .aload_n 0), (106, .getfield 406), (109, .aload_n 0), (110, .getfield 398), (113, .aload_n 0), (114, .getfield 57), (117, .aload_n 0), (118, .getfield 443), (121, .lload 5), (123, .l2i), (124, .invokestatic 288), (127, .aload_n 0), (128, .dup), (129, .getfield 398), (132, .lload 5), (134, .l2i), (135, .iadd), (136, .putfield 398), (139, .aload_n 0), (140, .dup), (141, .getfield 443), (144, .lload 5), (146, .l2i), (147, .iadd), (148, .putfield 443), (151, .goto (-120)), (154, .aload_n 0), (155, .invokevirtual 431), (158, .lstore 7), (160, .lload 5), (162, .ldc2_w 465), (165, .lcmp), (166, .ifCond .lt 21), (169, .lload 7), (171, .lconst 1), (172, .lcmp), (173, .ifCond .lt 14), (176, .lload 7), (178, .aload_n 0), (179, .getfield 443), (182, .i2l), (183, .lcmp), (184, .ifCond .le 5), (187, .iconst 0), (188, .ireturn), (189, .iconst 0), (190, .istore 9), (192, .iload 9), (194, .i2l), (195, .lload 5), (197, .lcmp), (198, .ifCond .ge 41), (201, .aload_n 0), (202, .getfield 57), (205, .aload_n 0), (206, .getfield 443), (209, .aload_n 0), (210, .getfield 57), (213, .aload_n 0), (214, .getfield 443), (217, .lload 7), (219, .l2i), (220, .isub), (221, .baload), (222, .bastore), (223, .aload_n 0), (224, .dup), (225, .getfield 443), (228, .iconst 1), (229, .iadd), (230, .putfield 443), (233, .iinc 9 1), (236, .goto (-44)), (239, .goto (-208)), (242, .aload_n 0), (243, .getfield 398), (246, .aload_n 0), (247, .getfield 401), (250, .if_icmp .ne 7), (253, .iconst 1), (254, .goto 4), (257, .iconst 0), (258, .ireturn)]
set_option maxRecDepth 100000 in
theorem kX14_unpack : chk cX14_unpack tX14_unpack = true := by decide +kernel
theorem vX14_unpack_458 : ∀ w ∈ ([.methodLink RX14 458 yX14_enter, .instanceMethod yX14_enter, .selects yX14_enter.cls yX14_enter yX14_enter, .initialized yX14_enter.cls, .code yX14_enter cX14_enter 2 none] : List Cond), w ∈ lw_good := List.forall_mem_cons.mpr ⟨mgd 2361 (by decide +kernel) (by decide +kernel), List.forall_mem_cons.mpr ⟨mgd 2363 (by decide +kernel) (by decide +kernel), List.forall_mem_cons.mpr ⟨mgd 103 (by decide +kernel) (by decide +kernel), List.forall_mem_cons.mpr ⟨mgd 136 (by decide +kernel) (by decide +kernel), List.forall_mem_cons.mpr ⟨mgd 2364 (by decide +kernel) (by decide +kernel), fun _ h => absurd h List.not_mem_nil⟩⟩⟩⟩⟩
theorem vX14_unpack_431 : ∀ w ∈ ([.methodLink RX14 431 yX14_number, .instanceMethod yX14_number, .selects yX14_number.cls yX14_number yX14_number, .initialized yX14_number.cls, .code yX14_number cX14_number 5 (some .long)] : List Cond), w ∈ lw_good := List.forall_mem_cons.mpr ⟨mgd 2346 (by decide +kernel) (by decide +kernel), List.forall_mem_cons.mpr ⟨mgd 2348 (by decide +kernel) (by decide +kernel), List.forall_mem_cons.mpr ⟨mgd 100 (by decide +kernel) (by decide +kernel), List.forall_mem_cons.mpr ⟨mgd 136 (by decide +kernel) (by decide +kernel), List.forall_mem_cons.mpr ⟨mgd 2349 (by decide +kernel) (by decide +kernel), fun _ h => absurd h List.not_mem_nil⟩⟩⟩⟩⟩
theorem vX14_unpack_288 : ∀ w ∈ ([.methodLink RX14 288 arraycopyName, .native arraycopyName, .static arraycopyName, .initialized "java/lang/System"] : List Cond), w ∈ lw_good := List.forall_mem_cons.mpr ⟨mgd 2183 (by decide +kernel) (by decide +kernel), List.forall_mem_cons.mpr ⟨mgd 792 (by decide +kernel) (by decide +kernel), List.forall_mem_cons.mpr ⟨mgd 791 (by decide +kernel) (by decide +kernel), List.forall_mem_cons.mpr ⟨mgd 144 (by decide +kernel) (by decide +kernel), fun _ h => absurd h List.not_mem_nil⟩⟩⟩⟩
set_option maxRecDepth 100000 in
set_option maxHeartbeats 2000000 in
theorem c_rup (l : Launch) : ∀ (t : Nat) (F : Nat → Nat × Nat) (z : Nat → Nat) (Y : Nat → Nat → Nat) (R : Rb) (kz : Nat → Nat) (r : Nat) (B : List Nat) (cA cE : Nat → Nat), Ct l yX14_unpack cX14_unpack 10 (some .boolean) 1 32 (sp_rup t F z Y R kz r B cA cE) := by
  intro t F z Y R kz r B cA cE
  refine Ct.of (fX14, nX14, aX14, iX14, lX14, [(458, 0, 2, 0, T_rent), (431, 0, 1, 2, T_rnum), (288, 2, 5, 0, T_acopy)], qX14, gX14, []) false tX14_unpack (fun _ S => look [(31, ([0,1], I_up1 t r z B cA cE S)), (192, ([0,1,5,7,9], I_up2 t r z B cA cE S))]) (by decide) (by decide) kX14_unpack ⟨_, _, rfl⟩ fX14_ok nX14_ok aX14_ok iX14_ok lX14_ok (fun p e R s m args below meth c Q D cy z r A C hR1 hR2 => List.forall_mem_cons.mpr ⟨cOK_use (fun _ _ _ _ _ _ _ _ h => let ⟨sp, h1, h2, h3⟩ := u_rent l _ _ _ _ _ _ _ _ h; ⟨sp, cOK_V C h1 vX14_unpack_458 ⟨by decide, by decide, by decide +kernel⟩ ⟨by rw [hR1]; decide, by rw [hR2]; decide⟩ (k := 15) (T := TX14) (N := 52) rfl (by decide) h2, h3⟩), List.forall_mem_cons.mpr ⟨cOK_use (fun _ _ _ _ _ _ _ _ h => let ⟨sp, h1, h2, h3⟩ := u_rnum l _ _ _ _ _ _ _ _ h; ⟨sp, cOK_V C h1 vX14_unpack_431 ⟨by decide, by decide, by decide +kernel⟩ ⟨by rw [hR1]; decide, by rw [hR2]; decide⟩ (k := 15) (T := TX14) (N := 52) rfl (by decide) h2, h3⟩), List.forall_mem_cons.mpr ⟨cOK_use (fun _ _ _ _ _ _ _ _ h => ⟨sp_acopy, cOK_acopy C vX14_unpack_288 ⟨by rw [hR1]; decide, by rw [hR2]; decide⟩, T_acopy_ok h⟩), fun _ h => absurd h List.not_mem_nil⟩⟩⟩) qX14_ok gX14_ok rfl ?_ ?_
  · rintro _ S ⟨rfl, hp⟩
    refine ⟨Nat.le_of_ble_eq_true rfl, 300, ?_⟩
    show (0 = 0 ∧ (∃ (c_1 : Nat), (4 : Int32) = nI c_1 ∧ (∃ (F_2 : Nat → Nat × Nat) (z_3 : Nat → Nat) (Y_4 : Nat → Nat → Nat) (R_5 : Rb) (kz_6 : Nat → Nat) (cA_7 cE_8 : Nat → Nat), (MD S F_2 t z_3 Y_4 R_5 kz_6 ∧ coP S z_3 cA_7 cE_8 ∧ c_1 < 5) ∧ 0 ≤ 0 ∧ 0 ≤ 0 ∧ ((0 = 0 ∧ (∃ (F_10 : Nat → Nat × Nat) (z_11 : Nat → Nat) (Y_12 : Nat → Nat → Nat) (R_13 : Rb) (kz_14 : Nat → Nat) (r_15 : Nat) (B_16 : List Nat) (p_17 q_18 : Nat), (MD (sI (sI S 1535 t (nI (cA_7 c_1))) 1536 t (nI (cE_8 c_1))) F_10 t z_11 Y_12 R_13 kz_14 ∧ rdP9 (sI (sI S 1535 t (nI (cA_7 c_1))) 1536 t (nI (cE_8 c_1))) t r_15 B_16 p_17 q_18) ∧ 0 ≤ 0 ∧ 0 ≤ 0 ∧ (∀ (S_19 : MM), (nuQ (sI (sI S 1535 t (nI (cA_7 c_1))) 1536 t (nI (cE_8 c_1))) S_19 t B_16 p_17 q_18) → (((lg_cmp (oJ (vint B_16 q_18 p_17).1) (0 : Int64)) < 0 → (([] : List MV) = [] ∧ mret (some .boolean) (sp_rup t F z Y R kz r B cA cE) [.inr (.inr (some t))] S (some (.inl (0 : Int32))) S_19 0 0)) ∧ (¬ (lg_cmp (oJ (vint B_16 q_18 p_17).1) (0 : Int64)) < 0 → (((lg_cmp (oJ (vint B_16 q_18 p_17).1) (32768 : Int64)) ≤ 0 → (True ∧ (isO S_19 15 t ∧ (∃ k1, I_up1 t r z B cA cE S k1 [(0, .inr (.inr (some t))), (1, .inr (.inl (oJ (vint B_16 q_18 p_17).1)))] [] (sI S_19 1520 t (0 : Int32)) 0 0)))) ∧ (¬ (lg_cmp (oJ (vint B_16 q_18 p_17).1) (32768 : Int64)) ≤ 0 → (([] : List MV) = [] ∧ mret (some .boolean) (sp_rup t F z Y R kz r B cA cE) [.inr (.inr (some t))] S (some (.inl (0 : Int32))) S_19 0 0))))))))))))
    obtain ⟨hM, ⟨r1, r2, hC, hc⟩, hrz, hfit⟩ := hp
    obtain ⟨c1, c2⟩ := hc 4 (by decide)
    have hX0 : rcX [19] ufs S (sI (sI S 1535 t (nI (cA 4))) 1536 t (nI (cE 4))) t r z B (cA 4) (cE 4) := rcX.en hM (by decide) (by decide) r1 r2 c1 c2
    have M0 := hX0.md hM (by decide) (by decide)
    refine ⟨rfl, 4, rfl, F, z, Y, R, kz, cA, cE, ⟨hM, hC, by decide⟩, Nat.le_refl _, Nat.le_refl _, rfl, F, z, Y, R, kz, r, B, cA 4, cE 4, ⟨M0, hX0.2⟩, Nat.le_refl _, Nat.le_refl _, fun S19 hq => ?_⟩
    obtain ⟨p', a1, a2, hX1, hp'⟩ := hX0.nu M0 (by decide) hq
    have M1 := hX1.md hM (by decide) (by decide)
    have bad : (upk B (cE 4) (cA 4)).1 = false → (([] : List MV) = [] ∧ mret (some .boolean) (sp_rup t F z Y R kz r B cA cE) [.inr (.inr (some t))] S (some (.inl (0 : Int32))) S19 0 0) := fun e => ⟨rfl, rt0, ⟨by rw [e]; rfl, hX1.1, fun e9 => by rw [e] at e9; cases e9⟩, Nat.le_refl _, Nat.le_refl _⟩
    cases hv : (vint B (cE 4) (cA 4)).1 with
    | none =>
      refine ⟨fun _ => bad ?_, fun q => absurd (by decide) q⟩
      unfold upk
      rw [hv]
    | some n =>
      have hlt := vint_lt r2.2.2.2.1 hv
      have hp9 := hp' n hv
      have eU : upk B (cE 4) (cA 4) = if n ≤ 32768 then upkF B (cE 4) n (n + 1) [] (vint B (cE 4) (cA 4)).2 else (false, [], (vint B (cE 4) (cA 4)).2) := by
        unfold upk
        rw [hv]
      have hn0 : ¬ lg_cmp (oJ (some n)) 0 < 0 := fun q => by
        have := (oJ_lt (o := some n) (fun m e => by cases e; exact hlt)).1 q
        cases this
      have h32 : lg_cmp (oJ (some n)) 32768 ≤ 0 ↔ n ≤ 32768 := lgk (a := n) (b := 32768) (by omega) (by decide)
      refine ⟨fun q => absurd q hn0, fun _ => ⟨fun q => ⟨trivial, (M1 0).1, _, n, [], p', n + 1, rfl, h32.1 q, Nat.zero_le _, by rw [List.length_nil]; omega, by rw [eU, if_pos (h32.1 q), hp9], hX1.st M1 (rK.sf 1520 0) (fun k hk => by cases hk) (fun f hf => by rw [List.mem_singleton.1 hf]; decide) (by decide) (by decide) (fun k hk => by cases hk), ⟨by rw [mI_sI, if_pos ⟨rfl, rfl⟩]; rfl, Nat.zero_le _, (fun x h9 => by cases h9), (fun j hj => absurd hj (Nat.not_lt_zero j))⟩, rfl, rfl, rfl, rfl⟩, fun q => bad ?_⟩⟩
      rw [eU, if_neg (fun w => q (h32.2 w))]
  · intro av S hpre pc I hI k lo st S1 cs sl h
    obtain ⟨rfl, hp⟩ := hpre
    have hm := look_in hI
    simp only [List.mem_cons, List.not_mem_nil, or_false] at hm
    rcases hm with hm | hm
    · cases hm
      obtain ⟨n, P, p, f, rfl, hn, hPn, hf, hU, hX, hP, rfl, rfl, rfl, rfl⟩ := h
      refine ⟨300, ?_⟩
      show (isO S1 15 t ∧ ((0 ≤ (lg_cmp ((mI S1 1520 t).toInt64) (lN n)) → (isO S1 15 t ∧ (isO S1 15 t ∧ ((¬ (mI S1 1535 t) = (mI S1 1536 t) → (([] : List MV) = [] ∧ mret (some .boolean) (sp_rup t F z Y R kz r B cA cE) [.inr (.inr (some t))] S (some (.inl (0 : Int32))) S1 0 0)) ∧ ((mI S1 1535 t) = (mI S1 1536 t) → (([] : List MV) = [] ∧ mret (some .boolean) (sp_rup t F z Y R kz r B cA cE) [.inr (.inr (some t))] S (some (.inl (1 : Int32))) S1 0 0)))))) ∧ (¬ 0 ≤ (lg_cmp ((mI S1 1520 t).toInt64) (lN n)) → (0 = 0 ∧ (∃ (F_1 : Nat → Nat × Nat) (z_2 : Nat → Nat) (Y_3 : Nat → Nat → Nat) (R_4 : Rb) (kz_5 : Nat → Nat) (r_6 : Nat) (B_7 : List Nat) (p_8 q_9 : Nat), (MD S1 F_1 t z_2 Y_3 R_4 kz_5 ∧ rdP9 S1 t r_6 B_7 p_8 q_9) ∧ 0 ≤ 0 ∧ 0 ≤ 0 ∧ (∀ (S_10 : MM), (nuQ S1 S_10 t B_7 p_8 q_9) → (((lg_cmp (oJ (vint B_7 q_9 p_8).1) (0 : Int64)) < 0 → (([] : List MV) = [] ∧ mret (some .boolean) (sp_rup t F z Y R kz r B cA cE) [.inr (.inr (some t))] S (some (.inl (0 : Int32))) S_10 0 0)) ∧ (¬ (lg_cmp (oJ (vint B_7 q_9 p_8).1) (0 : Int64)) < 0 → (isO S_10 15 t ∧ (((lg_cmp ((oJ (vint B_7 q_9 p_8).1) >>> ((1 : Int32).toInt64 &&& 63)) ((lN n) - ((mI S_10 1520 t).toInt64))) ≤ 0 → ((¬ (lg_cmp ((oJ (vint B_7 q_9 p_8).1) &&& (1 : Int64)) (0 : Int64)) = 0 → (0 = 0 ∧ (∃ (F_11 : Nat → Nat × Nat) (z_12 : Nat → Nat) (Y_13 : Nat → Nat → Nat) (R_14 : Rb) (kz_15 : Nat → Nat) (r_16 : Nat) (B_17 : List Nat) (p_18 q_19 : Nat), (MD S_10 F_11 t z_12 Y_13 R_14 kz_15 ∧ rdP9 S_10 t r_16 B_17 p_18 q_19) ∧ 0 ≤ 0 ∧ 0 ≤ 0 ∧ (∀ (S_20 : MM), (nuQ S_10 S_20 t B_17 p_18 q_19) → (((lg_cmp ((oJ (vint B_7 q_9 p_8).1) >>> ((1 : Int32).toInt64 &&& 63)) (4 : Int64)) < 0 → (([] : List MV) = [] ∧ mret (some .boolean) (sp_rup t F z Y R kz r B cA cE) [.inr (.inr (some t))] S (some (.inl (0 : Int32))) S_20 0 0)) ∧ (¬ (lg_cmp ((oJ (vint B_7 q_9 p_8).1) >>> ((1 : Int32).toInt64 &&& 63)) (4 : Int64)) < 0 → (((lg_cmp (oJ (vint B_17 q_19 p_18).1) (1 : Int64)) < 0 → (([] : List MV) = [] ∧ mret (some .boolean) (sp_rup t F z Y R kz r B cA cE) [.inr (.inr (some t))] S (some (.inl (0 : Int32))) S_20 0 0)) ∧ (¬ (lg_cmp (oJ (vint B_17 q_19 p_18).1) (1 : Int64)) < 0 → (isO S_20 15 t ∧ (((lg_cmp (oJ (vint B_17 q_19 p_18).1) ((mI S_20 1520 t).toInt64)) ≤ 0 → (∃ k1, k1 < (40000 * f + 39999) ∧ I_up2 t r z B cA cE S k1 [(0, .inr (.inr (some t))), (1, .inr (.inl (lN n))), (5, .inr (.inl ((oJ (vint B_7 q_9 p_8).1) >>> ((1 : Int32).toInt64 &&& 63)))), (7, .inr (.inl (oJ (vint B_17 q_19 p_18).1))), (9, .inl (0 : Int32))] [] S_20 0 0)) ∧ (¬ (lg_cmp (oJ (vint B_17 q_19 p_18).1) ((mI S_20 1520 t).toInt64)) ≤ 0 → (([] : List MV) = [] ∧ mret (some .boolean) (sp_rup t F z Y R kz r B cA cE) [.inr (.inr (some t))] S (some (.inl (0 : Int32))) S_20 0 0)))))))))))) ∧ ((lg_cmp ((oJ (vint B_7 q_9 p_8).1) &&& (1 : Int64)) (0 : Int64)) = 0 → (((lg_cmp ((oJ (vint B_7 q_9 p_8).1) >>> ((1 : Int32).toInt64 &&& 63)) (1 : Int64)) < 0 → (([] : List MV) = [] ∧ mret (some .boolean) (sp_rup t F z Y R kz r B cA cE) [.inr (.inr (some t))] S (some (.inl (0 : Int32))) S_10 0 0)) ∧ (¬ (lg_cmp ((oJ (vint B_7 q_9 p_8).1) >>> ((1 : Int32).toInt64 &&& 63)) (1 : Int64)) < 0 → (isO S_10 15 t ∧ (isO S_10 15 t ∧ (((lg_cmp ((oJ (vint B_7 q_9 p_8).1) >>> ((1 : Int32).toInt64 &&& 63)) (((mI S_10 1536 t) - (mI S_10 1535 t)).toInt64)) ≤ 0 → (isO S_10 15 t ∧ (isO S_10 15 t ∧ (isO S_10 15 t ∧ (isO S_10 15 t ∧ (2 = 2 ∧ ((pa (mR S_10 1534 t) fun a_21 => ((pa (mR S_10 1519 t) fun a_22 => (∃ (k_23 : Nat), (acP S_10 a_21 a_22 (mI S_10 1535 t) (mI S_10 1520 t) (((oJ (vint B_7 q_9 p_8).1) >>> ((1 : Int32).toInt64 &&& 63)).toInt32) k_23) ∧ 0 ≤ 0 ∧ 0 ≤ 0 ∧ ((isO (rI S_10 a_22 (va_cpy (eI S_10 a_21) (eI S_10 a_22) (mI S_10 1535 t).toNatClampNeg (mI S_10 1520 t).toNatClampNeg (((oJ (vint B_7 q_9 p_8).1) >>> ((1 : Int32).toInt64 &&& 63)).toInt32).toNatClampNeg)) 15 t ∧ (True ∧ (isO (rI S_10 a_22 (va_cpy (eI S_10 a_21) (eI S_10 a_22) (mI S_10 1535 t).toNatClampNeg (mI S_10 1520 t).toNatClampNeg (((oJ (vint B_7 q_9 p_8).1) >>> ((1 : Int32).toInt64 &&& 63)).toInt32).toNatClampNeg)) 15 t ∧ (isO (sI (rI S_10 a_22 (va_cpy (eI S_10 a_21) (eI S_10 a_22) (mI S_10 1535 t).toNatClampNeg (mI S_10 1520 t).toNatClampNeg (((oJ (vint B_7 q_9 p_8).1) >>> ((1 : Int32).toInt64 &&& 63)).toInt32).toNatClampNeg)) 1535 t ((mI (rI S_10 a_22 (va_cpy (eI S_10 a_21) (eI S_10 a_22) (mI S_10 1535 t).toNatClampNeg (mI S_10 1520 t).toNatClampNeg (((oJ (vint B_7 q_9 p_8).1) >>> ((1 : Int32).toInt64 &&& 63)).toInt32).toNatClampNeg)) 1535 t) + (((oJ (vint B_7 q_9 p_8).1) >>> ((1 : Int32).toInt64 &&& 63)).toInt32))) 15 t ∧ (True ∧ (isO (sI (rI S_10 a_22 (va_cpy (eI S_10 a_21) (eI S_10 a_22) (mI S_10 1535 t).toNatClampNeg (mI S_10 1520 t).toNatClampNeg (((oJ (vint B_7 q_9 p_8).1) >>> ((1 : Int32).toInt64 &&& 63)).toInt32).toNatClampNeg)) 1535 t ((mI (rI S_10 a_22 (va_cpy (eI S_10 a_21) (eI S_10 a_22) (mI S_10 1535 t).toNatClampNeg (mI S_10 1520 t).toNatClampNeg (((oJ (vint B_7 q_9 p_8).1) >>> ((1 : Int32).toInt64 &&& 63)).toInt32).toNatClampNeg)) 1535 t) + (((oJ (vint B_7 q_9 p_8).1) >>> ((1 : Int32).toInt64 &&& 63)).toInt32))) 15 t ∧ (∃ k1, k1 < (40000 * f + 39999) ∧ I_up1 t r z B cA cE S k1 [(0, .inr (.inr (some t))), (1, .inr (.inl (lN n)))] [] (sI (sI (rI S_10 a_22 (va_cpy (eI S_10 a_21) (eI S_10 a_22) (mI S_10 1535 t).toNatClampNeg (mI S_10 1520 t).toNatClampNeg (((oJ (vint B_7 q_9 p_8).1) >>> ((1 : Int32).toInt64 &&& 63)).toInt32).toNatClampNeg)) 1535 t ((mI (rI S_10 a_22 (va_cpy (eI S_10 a_21) (eI S_10 a_22) (mI S_10 1535 t).toNatClampNeg (mI S_10 1520 t).toNatClampNeg (((oJ (vint B_7 q_9 p_8).1) >>> ((1 : Int32).toInt64 &&& 63)).toInt32).toNatClampNeg)) 1535 t) + (((oJ (vint B_7 q_9 p_8).1) >>> ((1 : Int32).toInt64 &&& 63)).toInt32))) 1520 t ((mI (sI (rI S_10 a_22 (va_cpy (eI S_10 a_21) (eI S_10 a_22) (mI S_10 1535 t).toNatClampNeg (mI S_10 1520 t).toNatClampNeg (((oJ (vint B_7 q_9 p_8).1) >>> ((1 : Int32).toInt64 &&& 63)).toInt32).toNatClampNeg)) 1535 t ((mI (rI S_10 a_22 (va_cpy (eI S_10 a_21) (eI S_10 a_22) (mI S_10 1535 t).toNatClampNeg (mI S_10 1520 t).toNatClampNeg (((oJ (vint B_7 q_9 p_8).1) >>> ((1 : Int32).toInt64 &&& 63)).toInt32).toNatClampNeg)) 1535 t) + (((oJ (vint B_7 q_9 p_8).1) >>> ((1 : Int32).toInt64 &&& 63)).toInt32))) 1520 t) + (((oJ (vint B_7 q_9 p_8).1) >>> ((1 : Int32).toInt64 &&& 63)).toInt32))) 0 0))))))))))))))))))) ∧ (¬ (lg_cmp ((oJ (vint B_7 q_9 p_8).1) >>> ((1 : Int32).toInt64 &&& 63)) (((mI S_10 1536 t) - (mI S_10 1535 t)).toInt64)) ≤ 0 → (([] : List MV) = [] ∧ mret (some .boolean) (sp_rup t F z Y R kz r B cA cE) [.inr (.inr (some t))] S (some (.inl (0 : Int32))) S_10 0 0)))))))))) ∧ (¬ (lg_cmp ((oJ (vint B_7 q_9 p_8).1) >>> ((1 : Int32).toInt64 &&& 63)) ((lN n) - ((mI S_10 1520 t).toInt64))) ≤ 0 → (([] : List MV) = [] ∧ mret (some .boolean) (sp_rup t F z Y R kz r B cA cE) [.inr (.inr (some t))] S (some (.inl (0 : Int32))) S_10 0 0))))))))))))
      obtain ⟨hM, ⟨r1, r2, hC, hc⟩, hrz, hfit⟩ := hp
      have M1 := hX.md hM (by decide) (by decide)
      have hc4 := hc 4 (by decide)
      have hB8 : B.length ≤ 32768 := r2.2.2.1
      obtain ⟨hK, x1, x2, x3, x4, x5, x6⟩ := id hX
      have bad : ∀ {S2}, rK [19] ufs S S2 t z → (upk B (cE 4) (cA 4)).1 = false → (([] : List MV) = [] ∧ mret (some .boolean) (sp_rup t F z Y R kz r B cA cE) [.inr (.inr (some t))] S (some (.inl (0 : Int32))) S2 0 0) := fun {S2} h e => ⟨rfl, rt0, ⟨by rw [e]; rfl, h, fun e9 => by rw [e] at e9; cases e9⟩, Nat.le_refl _, Nat.le_refl _⟩
      obtain ⟨f, rfl⟩ : ∃ f', f = f' + 1 := ⟨f - 1, by omega⟩
      rw [upkF] at hU
      rw [hP.1, x3, x4, nI_l (by omega)]
      refine ⟨(M1 0).1, fun q => ⟨(M1 0).1, (M1 0).1, ?_⟩, fun q => ?_⟩
      · have hle : n ≤ P.length := (lgg (by omega) (by omega)).1 q
        rw [if_pos hle] at hU
        refine if_ne (by omega) (by omega) (fun w => bad hK ?_) (fun w => ⟨rfl, rt1, ⟨?_, hK, fun _ => by rw [hU]; exact hP⟩, Nat.le_refl _, Nat.le_refl _⟩)
        · rw [hU]; exact decide_eq_false (by omega)
        · rw [hU]
          show _ = some (Sum.inl (bI (decide (cE 4 ≤ p))))
          rw [decide_eq_true (by omega)]; rfl
      · have hle : P.length < n := Nat.lt_of_not_le (fun w => q ((lgg (by omega) (by omega)).2 w))
        rw [if_neg (by omega)] at hU
        refine ⟨rfl, F, z, Y, R, kz, r, B, p, cE 4, ⟨M1, hX.2⟩, Nat.le_refl _, Nat.le_refl _, fun S10 hq => ?_⟩
        obtain ⟨p', a1, a2, hX1, hp'⟩ := hX.nu M1 (by decide) hq
        have M2 := hX1.md hM (by decide) (by decide)
        have kn : rK [] [1535] S1 S10 t z := by
          obtain ⟨p9, -, -, rfl, -⟩ := hq
          exact rK.sf 1535 (nI p9)
        have hP2 : pnP S10 t z P := ⟨(kn.2.1 _ (by decide)).trans hP.1, hP.2.1, hP.2.2.1, fun j hj => by rw [(kn.row M1 (fun k hk => by cases hk) (j := 19) (by decide) (by decide)).1]; exact hP.2.2.2 j hj⟩
        obtain ⟨hK1, y1, y2, y3, y4, y5, y6⟩ := id hX1
        cases hv : (vint B (cE 4) p).1 with
        | none =>
          rw [hv] at hU
          exact ⟨fun _ => bad hX1.1 (by rw [hU]), fun q => absurd (by decide) q⟩
        | some v =>
          have hlt := vint_lt r2.2.2.2.1 hv
          have hp9 := hp' v hv
          rw [hv, ← hp9] at hU
          dsimp only at hU
          have hn0 : ¬ lg_cmp (oJ (some v)) 0 < 0 := fun q => by
            have := (oJ_lt (o := some v) (fun m e => by cases e; exact hlt)).1 q
            cases this
          have e1 : oJ (some v) >>> ((1 : Int32).toInt64 &&& 63) = lN (v / 2) := lB_1 (by omega)
          have e2 : oJ (some v) &&& 1 = lN (v % 2) := lA_1 (by omega)
          rw [e1, e2, hP2.1, nI_l (by omega), lN_mi (by omega), y3, y4, pk_sub y5, nI_l (by omega), lN_32 (by omega)]
          refine ⟨fun q => absurd q hn0, fun _ => ⟨(M2 0).1, fun q1 => ?_, fun q1 => bad hX1.1 ?_⟩⟩
          · have q1 : v / 2 ≤ n - P.length := (lgk (by omega) (by omega)).1 q1
            refine ⟨fun q2 => ?_, fun q2 => ?_⟩
            · have q2 : v % 2 ≠ 0 := fun w => q2 ((lgc (b := 0) (by omega) (by decide)).2.2 w)
              refine ⟨rfl, F, z, Y, R, kz, r, B, p', cE 4, ⟨M2, hX1.2⟩, Nat.le_refl _, Nat.le_refl _, fun S20 hq2 => ?_⟩
              obtain ⟨p2, b1, b2, hX2, hp2⟩ := hX1.nu M2 (by decide) hq2
              have M3 := hX2.md hM (by decide) (by decide)
              have kn2 : rK [] [1535] S10 S20 t z := by
                obtain ⟨p9, -, -, rfl, -⟩ := hq2
                exact rK.sf 1535 (nI p9)
              have hP3 : pnP S20 t z P := ⟨(kn2.2.1 _ (by decide)).trans hP2.1, hP.2.1, hP.2.2.1, fun j hj => by rw [(kn2.row M2 (fun k hk => by cases hk) (j := 19) (by decide) (by decide)).1]; exact hP2.2.2.2 j hj⟩
              rw [hP3.1, nI_l (by omega)]
              by_cases c1 : v / 2 < 1
              · rw [if_pos (Or.inl c1)] at hU
                exact ⟨fun _ => bad hX2.1 (by rw [hU]), fun w => absurd ((lgl (b := 4) (by omega) (by decide)).2 (by omega)) w⟩
              · rw [if_neg (by omega), if_neg q2] at hU
                refine ⟨fun w => bad hX2.1 ?_, fun w => ?_⟩
                · have w : v / 2 < 4 := (lgl (b := 4) (by omega) (by decide)).1 w
                  cases hv2 : (vint B (cE 4) p').1 with
                  | none => rw [hv2] at hU; rw [hU]
                  | some b => rw [hv2] at hU; dsimp only at hU; rw [if_neg (by omega)] at hU; rw [hU]
                · have w : 4 ≤ v / 2 := Nat.le_of_not_lt (fun w9 => w ((lgl (b := 4) (by omega) (by decide)).2 w9))
                  cases hv2 : (vint B (cE 4) p').1 with
                  | none =>
                    rw [hv2] at hU
                    exact ⟨fun _ => bad hX2.1 (by rw [hU]), fun w9 => absurd (by decide) w9⟩
                  | some b =>
                    have hlt2 := vint_lt r2.2.2.2.1 hv2
                    have hp8 := hp2 b hv2
                    rw [hv2, ← hp8] at hU
                    dsimp only at hU
                    have h1 : lg_cmp (oJ (some b)) 1 < 0 ↔ b < 1 := lgl (a := b) (b := 1) (by omega) (by decide)
                    have h2 : lg_cmp (oJ (some b)) (lN P.length) ≤ 0 ↔ b ≤ P.length := lgk (a := b) (by omega) (by omega)
                    refine ⟨fun w1 => bad hX2.1 ?_, fun w1 => ⟨(M3 0).1, fun w2 => ?_, fun w2 => bad hX2.1 ?_⟩⟩
                    · have := h1.1 w1
                      rw [if_neg (by omega)] at hU; rw [hU]
                    · have w1 : 1 ≤ b := Nat.le_of_not_lt (fun w9 => w1 (h1.2 w9))
                      have w2 := h2.1 w2
                      rw [if_pos ⟨w, w1, w2⟩] at hU
                      refine ⟨40000 * (f + 1) + (v / 2 - 0), by omega, n, P, p2, f, v / 2, b, 0, rfl, hn, by omega, hf, w, w1, w2, Nat.zero_le _, hU, hX2, ?_, rfl, rfl, rfl, rfl⟩
                      rw [repW, List.append_nil]; exact hP3
                    · rw [if_neg (fun w9 => w2 (h2.2 w9.2.2))] at hU; rw [hU]
            · have q2 : v % 2 = 0 := (lgc (b := 0) (by omega) (by decide)).2.1 q2
              have h1 : lg_cmp (lN (v / 2)) 1 < 0 ↔ v / 2 < 1 := lgl (b := 1) (by omega) (by decide)
              refine ⟨fun w => bad hX1.1 ?_, fun w => ⟨(M2 0).1, (M2 0).1, fun w2 => ?_, fun w2 => bad hX1.1 ?_⟩⟩
              · rw [if_pos (Or.inl (h1.1 w))] at hU; rw [hU]
              · have w1 : 1 ≤ v / 2 := Nat.le_of_not_lt (fun w9 => w (h1.2 w9))
                have w2 : v / 2 ≤ cE 4 - p' := (lgk (by omega) (by omega)).1 w2
                rw [if_neg (by omega), if_pos q2, if_pos w2] at hU
                have r19 := M2 1 19 (by decide)
                have ot := (M2 0).1
                have eRr : eI S10 r = eI S r := by
                  refine (hK1.1.2.1 r r2.1.1 (fun w9 => ?_)).2.2.2.1
                  rcases w9 with e9 | ⟨k9, k8, e9⟩
                  · have a9 := r2.1.2
                    rw [e9, (hM 0).1.2] at a9
                    exact absurd a9 (by decide)
                  · rw [List.mem_singleton.1 k8] at e9; exact hrz e9
                refine ⟨ot, ot, ot, ot, rfl, pa_i y1 (pa_i r19.1 ⟨16, ?_, Nat.le_refl _, Nat.le_refl _, ot, trivial, ot, ot, trivial, ot, ?_⟩)⟩
                · refine ⟨y2.1, r19.2.2.1, Or.inr (Or.inr ⟨rfl, fun j hj => by rw [eRr]; exact hfit _⟩), nI_pos (by omega), nI_pos (by omega), nI_pos (by omega), ?_, ?_⟩
                  · rw [nI_clamp (by omega), nI_clamp (by omega)]
                    have := y2.2.1
                    omega
                  · rw [nI_clamp (by omega), nI_clamp (by omega), r19.2.2.2]
                    show P.length + v / 2 ≤ 32768
                    omega
                · rw [nI_clamp (show p' < 2147483648 by omega), nI_clamp (show P.length < 2147483648 by omega), nI_clamp (show v / 2 < 2147483648 by omega)]
                  generalize hS9 : rI S10 (z 19) (va_cpy (eI S10 r) (eI S10 (z 19)) p' P.length (v / 2)) = S9
                  have m35 : mI S9 1535 t = nI p' := by rw [← hS9]; exact y3
                  have m20 : mI (sI S9 1535 t (nI (p' + v / 2))) 1520 t = nI P.length := by
                    rw [mI_sI, if_neg (fun e9 => absurd e9.1 (by decide)), ← hS9]; exact hP2.1
                  rw [m35, nI_add, m20, nI_add]
                  have k9 : rK [19] ufs S10 S9 t z := by
                    rw [← hS9]
                    exact ⟨Keep.rI (P := fun c => c = t ∨ ∃ k, k ∈ [19] ∧ c = z k) Keep.rf (Or.inr ⟨19, by decide, rfl⟩), fun _ _ => rfl, fun _ => rfl⟩
                  have k8 : rK [19] ufs S10 (sI (sI S9 1535 t (nI (p' + v / 2))) 1520 t (nI (P.length + v / 2))) t z := k9.tr (((rK.sf 1535 _).mono (fun k hk => by cases hk) (by decide)).tr ((rK.sf 1520 _).mono (fun k hk => by cases hk) (by decide)))
                  have e19 : eI (sI (sI S9 1535 t (nI (p' + v / 2))) 1520 t (nI (P.length + v / 2))) (z 19) = va_cpy (eI S10 r) (eI S10 (z 19)) p' P.length (v / 2) := by
                    show eI S9 (z 19) = _
                    rw [← hS9, eI_rI, if_pos rfl]
                  have sl := slc_len B p' (v / 2)
                  refine ⟨40000 * f + 39999, by omega, n, P ++ slc B p' (v / 2), p' + v / 2, f, rfl, hn, by rw [List.length_append, sl]; omega, by rw [List.length_append, sl]; omega, hU, ⟨hK1.tr k8, (k8.2.2 _).trans y1, k8.by M2 y2 (fun k hk => by rw [List.mem_singleton.1 hk]; exact hrz), ?_, ?_, by omega, y6⟩, ?_, rfl, rfl, rfl, rfl⟩
                  · rw [mI_sI, if_neg (fun e9 => absurd e9.1 (by decide)), mI_sI, if_pos ⟨rfl, rfl⟩]
                  · rw [mI_sI, if_neg (fun e9 => absurd e9.1 (by decide)), mI_sI, if_neg (fun e9 => absurd e9.1 (by decide)), ← hS9]; exact y4
                  · refine pnP.app (F := F) hP2 (by rw [mI_sI, if_pos ⟨rfl, rfl⟩, List.length_append, sl]) (by rw [List.length_append, sl]; omega) (slc_lt r2.2.2.2.1 _ _) (fun j hj => ?_) (fun j hj => ?_)
                    · rw [e19]; unfold va_cpy; rw [if_neg (by omega)]
                    · rw [sl] at hj
                      rw [e19]; unfold va_cpy
                      rw [if_pos ⟨by omega, by omega⟩, Nat.add_sub_cancel_left, y2.2.2.2.2 (p' + j) (by omega)]
                      unfold slc
                      rw [List.getD_eq_getElem?_getD (l := List.map _ _), List.getElem?_map, List.getElem?_range hj]
                      rfl
              · have w1 : 1 ≤ v / 2 := Nat.le_of_not_lt (fun w9 => w (h1.2 w9))
                rw [if_neg (by omega), if_pos q2, if_neg (fun w9 => w2 ((lgk (by omega) (by omega)).2 w9))] at hU; rw [hU]
          · have q1 : ¬ v / 2 ≤ n - P.length := fun w => q1 ((lgk (by omega) (by omega)).2 w)
            rw [if_pos (Or.inr (by omega))] at hU; rw [hU]
    · cases hm
      obtain ⟨n, P, p, f, m, d, j, rfl, hn, hPn, hf, h4, hd1, hd2, hjm, hU, hX, hP, rfl, rfl, rfl, rfl⟩ := h
      refine ⟨300, ?_⟩
      show ((0 ≤ (lg_cmp ((nI j).toInt64) (lN m)) → (∃ k1, k1 < (40000 * (f + 1) + (m - j)) ∧ I_up1 t r z B cA cE S k1 [(0, .inr (.inr (some t))), (1, .inr (.inl (lN n)))] [] S1 0 0)) ∧ (¬ 0 ≤ (lg_cmp ((nI j).toInt64) (lN m)) → (isO S1 15 t ∧ (isO S1 15 t ∧ (isO S1 15 t ∧ (isO S1 15 t ∧ (pa (mR S1 1519 t) fun a_1 => (isO S1 16 a_1 ∨ isO S1 20 a_1) ∧ inR S1 a_1 ((mI S1 1520 t) - ((lN d).toInt32)) ∧ (pa (mR S1 1519 t) fun a_2 => ((isO S1 16 a_2 ∧ inR S1 a_2 (mI S1 1520 t) ∧ (isO (rI S1 a_2 (upd (eI S1 a_2) (mI S1 1520 t).toNatClampNeg ((eI S1 a_1 ((mI S1 1520 t) - ((lN d).toInt32)).toNatClampNeg).toInt8.toInt32))) 15 t ∧ (True ∧ (isO (rI S1 a_2 (upd (eI S1 a_2) (mI S1 1520 t).toNatClampNeg ((eI S1 a_1 ((mI S1 1520 t) - ((lN d).toInt32)).toNatClampNeg).toInt8.toInt32))) 15 t ∧ (∃ k1, k1 < (40000 * (f + 1) + (m - j)) ∧ I_up2 t r z B cA cE S k1 [(0, .inr (.inr (some t))), (1, .inr (.inl (lN n))), (5, .inr (.inl (lN m))), (7, .inr (.inl (lN d))), (9, .inl ((nI j) + (1 : Int32)))] [] (sI (rI S1 a_2 (upd (eI S1 a_2) (mI S1 1520 t).toNatClampNeg ((eI S1 a_1 ((mI S1 1520 t) - ((lN d).toInt32)).toNatClampNeg).toInt8.toInt32))) 1520 t ((mI (rI S1 a_2 (upd (eI S1 a_2) (mI S1 1520 t).toNatClampNeg ((eI S1 a_1 ((mI S1 1520 t) - ((lN d).toInt32)).toNatClampNeg).toInt8.toInt32))) 1520 t) + (1 : Int32))) 0 0))))) ∨ (isO S1 20 a_2 ∧ inR S1 a_2 (mI S1 1520 t) ∧ (isO (rI S1 a_2 (upd (eI S1 a_2) (mI S1 1520 t).toNatClampNeg (vp_nar .boolean (eI S1 a_1 ((mI S1 1520 t) - ((lN d).toInt32)).toNatClampNeg)))) 15 t ∧ (True ∧ (isO (rI S1 a_2 (upd (eI S1 a_2) (mI S1 1520 t).toNatClampNeg (vp_nar .boolean (eI S1 a_1 ((mI S1 1520 t) - ((lN d).toInt32)).toNatClampNeg)))) 15 t ∧ (∃ k1, k1 < (40000 * (f + 1) + (m - j)) ∧ I_up2 t r z B cA cE S k1 [(0, .inr (.inr (some t))), (1, .inr (.inl (lN n))), (5, .inr (.inl (lN m))), (7, .inr (.inl (lN d))), (9, .inl ((nI j) + (1 : Int32)))] [] (sI (rI S1 a_2 (upd (eI S1 a_2) (mI S1 1520 t).toNatClampNeg (vp_nar .boolean (eI S1 a_1 ((mI S1 1520 t) - ((lN d).toInt32)).toNatClampNeg)))) 1520 t ((mI (rI S1 a_2 (upd (eI S1 a_2) (mI S1 1520 t).toNatClampNeg (vp_nar .boolean (eI S1 a_1 ((mI S1 1520 t) - ((lN d).toInt32)).toNatClampNeg)))) 1520 t) + (1 : Int32))) 0 0))))))))))))))
      obtain ⟨hM, ⟨r1, r2, hC, hc⟩, hrz, hfit⟩ := hp
      have M1 := hX.md hM (by decide) (by decide)
      have rl := repW_len P d j
      have hPl : (P ++ repW P d j).length = P.length + j := by rw [List.length_append, rl]
      have hP20 : mI S1 1520 t = nI (P.length + j) := by rw [hP.1, hPl]
      rw [nI_l (by omega), hP20, lN_32 (by omega), pk_sub (by omega)]
      refine ⟨fun q => ?_, fun q => ?_⟩
      · have hjm2 : j = m := by have := (lgg (by omega) (by omega)).1 q; omega
        subst hjm2
        exact ⟨40000 * f + 39999, by omega, n, P ++ repW P d j, p, f, rfl, hn, by rw [hPl]; exact hPn, by rw [hPl]; omega, hU, hX, hP, rfl, rfl, rfl, rfl⟩
      · have hjl : j < m := Nat.lt_of_not_le (fun w => q ((lgg (by omega) (by omega)).2 w))
        have r19 := M1 1 19 (by decide)
        have ot := (M1 0).1
        obtain ⟨hK, x1, x2, x3, x4, x5, x6⟩ := id hX
        have e1 : mI (rI S1 (z 19) (upd (eI S1 (z 19)) (nI (P.length + j)).toNatClampNeg (eI S1 (z 19) (nI (P.length + j - d)).toNatClampNeg).toInt8.toInt32)) 1520 t = nI (P.length + j) := hP20
        refine ⟨ot, ot, ot, ot, pa_i r19.1 ⟨Or.inl r19.2.2.1, inRn (N := 32768) r19.2.2.2 (by omega) (by decide), pa_i r19.1 (Or.inl ⟨r19.2.2.1, inRn (N := 32768) r19.2.2.2 (by omega) (by decide), ot, trivial, ot, ?_⟩)⟩⟩
        rw [e1, nI_1, nI_1, nI_clamp (show P.length + j < 2147483648 by omega), nI_clamp (show P.length + j - d < 2147483648 by omega)]
        have k9 : rK [19] [1520] S1 (sI (rI S1 (z 19) (upd (eI S1 (z 19)) (P.length + j) (eI S1 (z 19) (P.length + j - d)).toInt8.toInt32)) 1520 t (nI (P.length + j + 1))) t z := ⟨Keep.sI (P := fun c => c = t ∨ ∃ k, k ∈ [19] ∧ c = z k) (Keep.rI (P := fun c => c = t ∨ ∃ k, k ∈ [19] ∧ c = z k) Keep.rf (Or.inr ⟨19, by decide, rfl⟩)) (Or.inl rfl), fun f9 hf9 => by rw [mI_sI, if_neg (fun e => hf9 (List.mem_singleton.2 e.1))]; rfl, fun _ => rfl⟩
        refine ⟨40000 * (f + 1) + (m - (j + 1)), by omega, n, P, p, f, m, d, j + 1, rfl, hn, hPn, hf, h4, hd1, hd2, hjl, hU, hX.st M1 k9 (fun k hk => hk) (fun f9 hf9 => by rw [List.mem_singleton.1 hf9]; decide) (by decide) (by decide) (fun k hk => by rw [List.mem_singleton.1 hk]; exact hrz), ?_, rfl, rfl, rfl, rfl⟩
        have hg := getD_lt hP.2.2.1 ((P ++ repW P d j).length - d)
        rw [repW, ← List.append_assoc]
        refine pnP.app (F := F) hP (by rw [mI_sI, if_pos ⟨rfl, rfl⟩, List.length_append, hPl]; rfl) (by rw [List.length_append, hPl]; show P.length + j + 1 ≤ _; omega) (fun x hx => by rw [List.mem_singleton.1 hx]; exact hg) (fun i hi => ?_) (fun i hi => ?_)
        · show eI (rI S1 (z 19) _) (z 19) i = _
          rw [eI_rI, if_pos rfl, upd, if_neg (by omega)]
        · have hi : i = 0 := Nat.lt_one_iff.1 hi
          subst hi
          show eI (rI S1 (z 19) _) (z 19) _ &&& 255 = _
          rw [eI_rI, if_pos rfl, upd, hPl, if_pos (Nat.add_zero _), bp_b]
          have := hP.2.2.2 (P.length + j - d) (by omega)
          rw [this]; rfl
theorem u_rup (l : Launch) : Us l yX14_unpack cX14_unpack 10 (some .boolean) 1 32 15 T_rup := by
  intro Rc Rs av S cs sl K Kx h
  unfold T_rup at h
  split at h
  · rename_i t_o
    obtain ⟨t, rfl, h_1⟩ := pa_of h
    obtain ⟨F, z, Y, R, kz, r, B, cA, cE, hp, hc, hs, hk⟩ := h_1
    refine ⟨(sp_rup t F z Y R kz r B cA cE), c_rup l t F z Y R kz r B cA cE, fun _ _ h9 => ⟨_, _, h9.1, (h9.2.1 0).1⟩, ⟨rfl, hp⟩, hc, hs, fun v9 S' h8 => by
      obtain ⟨h7, h8⟩ := h8
      cases h7
      exact hk _ h8, fun _ _ q => q.elim⟩
  · exact h.elim
