/-! ===== The reference packs the text ===== -/
theorem vB_lt (vs : List Int32) : ∀ x ∈ vB vs, x < 256 := fun x hx => by
  obtain ⟨v, -, rfl⟩ := List.mem_map.1 hx
  exact b8_lt v
theorem vB_rng {U : List Nat} (hU : ∀ x ∈ U, x < 256) {i n : Nat} (h : i + n ≤ U.length) (hl : U.length ≤ 100000) : vB (rngV U i n) = (U.drop i).take n := by
  unfold vB rngV
  rw [List.map_map]
  refine List.ext_getElem ?_ (fun j h1 h2 => ?_)
  · rw [List.length_map, List.length_range, List.length_take, List.length_drop]; omega
  · rw [List.length_map, List.length_range] at h1
    rw [List.getElem_map, List.getElem_range, List.getElem_take, List.getElem_drop]
    show b8 (bAt U (nI (i + j))) = _
    rw [bAt_nI (by omega), List.getD_eq_getElem?_getD, List.getElem?_eq_getElem (by omega)]
    exact b8_nI (hU _ (List.getElem_mem _))
theorem vB_pln {U : List Nat} (hU : ∀ x ∈ U, x < 256) {i j : Nat} (hi : i ≤ j) (h : j ≤ U.length) (hl : U.length ≤ 100000) : vB (plnV U i j) = rpB U i j := by
  unfold plnV rpB
  by_cases c : j = i
  · rw [if_pos c, if_neg (by omega)]; rfl
  · rw [if_neg c, if_pos (by omega), vB_app, vbs_5 (by omega), vB_rng hU (by omega) hl]
theorem pln_len {V : Nat → List Int32} {i p : Nat} (hi : i ≤ p) (hpl : p ≤ (V 5).length) (h5 : (V 5).length ≤ 32768) : (plnV (vB (V 5)) i p).length ≤ 3 + (p - i) := by
  unfold plnV
  split
  · have b3 := vbs_le3 (v := 2 * (p - i)) (by omega)
    rw [List.length_append]
    unfold rngV
    rw [List.length_map, List.length_range]; omega
  · exact Nat.zero_le _
theorem byte_inj {a b : Int32} (ha : fits .byte (.int a) = true) (hb : fits .byte (.int b) = true) (h : a &&& 255 = b &&& 255) : a = b := by
  have hr : ∀ {v : Int32}, fits .byte (.int v) = true → -128 ≤ v.toInt ∧ v.toInt ≤ 127 := fun {v} hv => by
    have hv : (decide (-128 ≤ v) && decide (v ≤ 127)) = true := hv
    rw [Bool.and_eq_true, decide_eq_true_iff, decide_eq_true_iff] at hv
    exact ⟨Int32.le_iff_toInt_le.1 hv.1, Int32.le_iff_toInt_le.1 hv.2⟩
  have h1 := hr ha
  have h2 := hr hb
  rw [b8_and, b8_and] at h
  have h3 := (nI_eq (by have := b8_lt a; omega) (by have := b8_lt b; omega)).1 h
  unfold b8 at h3
  apply Int32.toInt_inj.1
  have e : ∀ v : Int32, v.toInt = (v.toBitVec.toNat : Int).bmod (2 ^ 32) := fun v => BitVec.toInt_eq_toNat_bmod _
  have l1 := a.toBitVec.isLt
  have l2 := b.toBitVec.isLt
  rw [e a] at h1
  rw [e b] at h2
  rw [e a, e b]
  simp only [Int.bmod_def] at *
  omega
def I_rk1 (t : Nat) (F : Nat → Nat × Nat) (z : Nat → Nat) (Y : Nat → Nat → Nat) (R : Rb) (kz : Nat → Nat) (V : Nat → List Int32) (M : List Nat) (ex : Int32) (S0 : MM) (k : Nat) : KT := fun lo st S1 cs sl => ∃ i p f vs, k = ((V 5).length - p) * 1000000 + 900000 ∧ i ≤ p ∧ p ≤ (V 5).length ∧ (V 5).length ≤ p + f ∧ packV (vB (V 5)) = vs ++ pkGo (vB (V 5)) f i p ∧ vs.length ≤ 5 + 3 * i ∧ wpS S0 S1 F t z Y R kz (updI V 4 vs) M ex ∧ lo = [(0, .inr (.inr (some t))), (1, .inl (nI i)), (2, .inl (nI p))] ∧ st = [] ∧ cs = 0 ∧ sl = 0
def I_rk2 (t : Nat) (F : Nat → Nat × Nat) (z : Nat → Nat) (Y : Nat → Nat → Nat) (R : Rb) (kz : Nat → Nat) (V : Nat → List Int32) (M : List Nat) (ex : Int32) (S0 : MM) (k : Nat) : KT := fun lo st S1 cs sl => ∃ i p f vs d, k = ((V 5).length - p) * 1000000 + 100 * (5000 - d) + 99 ∧ i ≤ p ∧ p < (V 5).length ∧ (V 5).length ≤ p + f ∧ packV (vB (V 5)) = vs ++ pkGo (vB (V 5)) f i p ∧ vs.length ≤ 5 + 3 * i ∧ wpS S0 S1 F t z Y R kz (updI V 4 vs) M ex ∧ d ≤ min p 4095 ∧ lo = [(0, .inr (.inr (some t))), (1, .inl (nI i)), (2, .inl (nI p)), (3, .inl (nI (bst (vB (V 5)) p (min 64 ((V 5).length - p)) d).1)), (4, .inl (nI (bst (vB (V 5)) p (min 64 ((V 5).length - p)) d).2)), (5, .inl (nI (d + 1)))] ∧ st = [] ∧ cs = 0 ∧ sl = 0
def I_rk3 (t : Nat) (F : Nat → Nat × Nat) (z : Nat → Nat) (Y : Nat → Nat → Nat) (R : Rb) (kz : Nat → Nat) (V : Nat → List Int32) (M : List Nat) (ex : Int32) (S0 : MM) (k : Nat) : KT := fun lo st S1 cs sl => ∃ i p f vs d n j, k = ((V 5).length - p) * 1000000 + 100 * (5000 - d) + 1 + j ∧ n + j = min 64 ((V 5).length - p) ∧ i ≤ p ∧ p < (V 5).length ∧ (V 5).length ≤ p + f ∧ packV (vB (V 5)) = vs ++ pkGo (vB (V 5)) f i p ∧ vs.length ≤ 5 + 3 * i ∧ wpS S0 S1 F t z Y R kz (updI V 4 vs) M ex ∧ d + 1 ≤ min p 4095 ∧ mlen (vB (V 5)) p (d + 1) (min 64 ((V 5).length - p)) = mlenF (vB (V 5)) p (d + 1) j n ∧ lo = [(0, .inr (.inr (some t))), (1, .inl (nI i)), (2, .inl (nI p)), (3, .inl (nI (bst (vB (V 5)) p (min 64 ((V 5).length - p)) d).1)), (4, .inl (nI (bst (vB (V 5)) p (min 64 ((V 5).length - p)) d).2)), (5, .inl (nI (d + 1))), (6, .inl (nI n))] ∧ st = [] ∧ cs = 0 ∧ sl = 0
def I_rk4 (t : Nat) (F : Nat → Nat × Nat) (z : Nat → Nat) (Y : Nat → Nat → Nat) (R : Rb) (kz : Nat → Nat) (V : Nat → List Int32) (M : List Nat) (ex : Int32) (S0 : MM) (k : Nat) : KT := fun lo st S1 cs sl => ∃ i p f vs, k = ((V 5).length - p) * 1000000 + 50 ∧ i ≤ p ∧ p < (V 5).length ∧ (V 5).length ≤ p + f ∧ packV (vB (V 5)) = vs ++ pkGo (vB (V 5)) f i p ∧ vs.length ≤ 5 + 3 * i ∧ wpS S0 S1 F t z Y R kz (updI V 4 vs) M ex ∧ lo = [(0, .inr (.inr (some t))), (1, .inl (nI i)), (2, .inl (nI p)), (3, .inl (nI (best (vB (V 5)) p).1)), (4, .inl (nI (best (vB (V 5)) p).2))] ∧ st = [] ∧ cs = 0 ∧ sl = 0
def I_rk5 (t : Nat) (F : Nat → Nat × Nat) (z : Nat → Nat) (Y : Nat → Nat → Nat) (R : Rb) (kz : Nat → Nat) (V : Nat → List Int32) (M : List Nat) (ex : Int32) (S0 : MM) (k : Nat) : KT := fun lo st S1 cs sl => ∃ i p f vs d, k = ((V 5).length - p) * 1000000 + 100 * (5000 - d) ∧ i ≤ p ∧ p < (V 5).length ∧ (V 5).length ≤ p + f ∧ packV (vB (V 5)) = vs ++ pkGo (vB (V 5)) f i p ∧ vs.length ≤ 5 + 3 * i ∧ wpS S0 S1 F t z Y R kz (updI V 4 vs) M ex ∧ d + 1 ≤ min p 4095 ∧ lo = [(0, .inr (.inr (some t))), (1, .inl (nI i)), (2, .inl (nI p)), (3, .inl (nI (bst (vB (V 5)) p (min 64 ((V 5).length - p)) d).1)), (4, .inl (nI (bst (vB (V 5)) p (min 64 ((V 5).length - p)) d).2)), (5, .inl (nI (d + 1))), (6, .inl (nI (mlen (vB (V 5)) p (d + 1) (min 64 ((V 5).length - p)))))] ∧ st = [] ∧ cs = 0 ∧ sl = 0
def T_rpck : TR := fun Rc Rs av S cs sl K _Kx => match av with
  | [.inr (.inr t_o)] => pa t_o fun t => (∃ (S0 : MM) (F : Nat → Nat × Nat) (z : Nat → Nat) (Y : Nat → Nat → Nat) (R : Rb) (kz : Nat → Nat) (V : Nat → List Int32) (M : List Nat) (ex : Int32), (wpS S0 S F t z Y R kz V M ex ∧ V 4 = [] ∧ (V 5).length ≤ 32768) ∧ cs ≤ Rc ∧ sl ≤ Rs ∧ (∀ (S' : MM), (wpS S0 S' F t z Y R kz (updI V 4 (packV (vB (V 5)))) M ex ∧ (packV (vB (V 5))).length ≤ 100000) → K none S' cs sl))
  | _ => False
def sp_rpck (t : Nat) (S0 : MM) (F : Nat → Nat × Nat) (z : Nat → Nat) (Y : Nat → Nat → Nat) (R : Rb) (kz : Nat → Nat) (V : Nat → List Int32) (M : List Nat) (ex : Int32) : Sp := (fun av S => av = [.inr (.inr (some t))] ∧ (wpS S0 S F t z Y R kz V M ex ∧ V 4 = [] ∧ (V 5).length ≤ 32768), fun _ S => 0, fun _ S => 0, fun _ S rv S' => rv = none ∧ (wpS S0 S' F t z Y R kz (updI V 4 (packV (vB (V 5)))) M ex ∧ (packV (vB (V 5))).length ≤ 100000), fun _ _ _ _ => False)
def tX14_pack : CD := [(0, .aload_n 0), (1, .getfield 88), (4, .aload_n 0), (5, .getfield 91), (8, .getfield 309), (11, .i2l), (12, .invokevirtual 326), (15, .iconst 0), (16, .istore_n 1), (17, .iconst 0), (18, .istore_n 2), (19, .iload_n 2), (20, .aload_n 0), (21, .getfield 91), (24, .getfield 309), (27, .if_icmp .ge 155), (30, .iconst 0), (31, .istore_n 3), (32, .iconst 0), (33, .istore 4), (35, .iconst 1), (36, .istore 5), (38, .iload 5), (40, .iload_n 2), (41, .if_icmp .gt 90), (44, .iload 5), (46, .sipush 4095), (49, .if_icmp .gt 82), (52, .iconst 0), (53, .istore 6), (55, .iload 6), (57, .bipush 64), (59, .if_icmp .ge 53), (62, .iload_n 2), (63, .iload 6), (65, .iadd), (66, .aload_n 0), (67, .getfield 91), (70, .getfield 309), (73, .if_icmp .ge 39), (76, .aload_n 0), (77, .getfield 91), (80, .getfield 316), (83, .iload_n 2), (84, .iload 6), (86, .iadd), (87, .baload), (88, .aload_n 0), (89, .getfield 91), (92, .getfield 316), (95, .iload_n 2), (96, .iload 6), (98, .iadd), (99, .iload 5), (101, .isub), (102, .baload), (103, .if_icmp .ne 9), (106, .iinc 6 1), (109, .goto (-54)), (112, .iload 6), (114, .iload_n 3), (115, .if_icmp .le 10), (118, .iload 6), (120, .istore_n 3), (121, .iload 5), (123, .istore 4), (125, .iinc 5 1), (128, .goto (-90)), (131, .iload_n 3), (132, .iconst 4), (133, .if_icmp .ge 9), (136, .iinc 2 1), (139, .goto (-120)), (142, .aload_n 0), (143, .iload_n 1), (144, .iload_n 2), (145, .invokevirtual 379), (148, .aload_n 0), (149, .getfield 88), (152, .ldc2_w 382), (155, .iload_n 3), (156, .i2l), (157, .lmul), (158, .lconst 1), (159, .ladd), (160, .invokevirtual 326), (163, .aload_n 0), (164, .getfield 88), (167, .iload 4), (169, .i2l), (170, .invokevirtual 326), (173, .iload_n 2), (174, .iload_n 3), (175, .iadd), (176, .istore_n 2), (177, .iload_n 2), (178, .istore_n 1), (179, .goto (-160)), (182, .aload_n 0), (183, .iload_n 1), (184, .iload_n 2), (185, .invokevirtual 379), (188, .return_)]
set_option maxRecDepth 100000 in
theorem kX14_pack : chk cX14_pack tX14_pack = true := by decide +kernel
theorem vX14_pack_326 : ∀ w ∈ ([.methodLink RX14 326 yX13_number, .instanceMethod yX13_number, .selects yX13_number.cls yX13_number yX13_number, .initialized yX13_number.cls, .code yX13_number cX13_number 5 none] : List Cond), w ∈ lw_good := List.forall_mem_cons.mpr ⟨mgd 2254 (by decide +kernel) (by decide +kernel), List.forall_mem_cons.mpr ⟨mgd 2255 (by decide +kernel) (by decide +kernel), List.forall_mem_cons.mpr ⟨mgd 2256 (by decide +kernel) (by decide +kernel), List.forall_mem_cons.mpr ⟨mgd 137 (by decide +kernel) (by decide +kernel), List.forall_mem_cons.mpr ⟨mgd 2257 (by decide +kernel) (by decide +kernel), fun _ h => absurd h List.not_mem_nil⟩⟩⟩⟩⟩
theorem vX14_pack_379 : ∀ w ∈ ([.methodLink RX14 379 yX14_plainPiece, .instanceMethod yX14_plainPiece, .selects yX14_plainPiece.cls yX14_plainPiece yX14_plainPiece, .initialized yX14_plainPiece.cls, .code yX14_plainPiece cX14_plainPiece 4 none] : List Cond), w ∈ lw_good := List.forall_mem_cons.mpr ⟨mgd 2312 (by decide +kernel) (by decide +kernel), List.forall_mem_cons.mpr ⟨mgd 2314 (by decide +kernel) (by decide +kernel), List.forall_mem_cons.mpr ⟨mgd 95 (by decide +kernel) (by decide +kernel), List.forall_mem_cons.mpr ⟨mgd 136 (by decide +kernel) (by decide +kernel), List.forall_mem_cons.mpr ⟨mgd 2315 (by decide +kernel) (by decide +kernel), fun _ h => absurd h List.not_mem_nil⟩⟩⟩⟩⟩
set_option maxRecDepth 100000 in
set_option maxHeartbeats 2000000 in
theorem c_rpck (l : Launch) : ∀ (t : Nat) (S0 : MM) (F : Nat → Nat × Nat) (z : Nat → Nat) (Y : Nat → Nat → Nat) (R : Rb) (kz : Nat → Nat) (V : Nat → List Int32) (M : List Nat) (ex : Int32), Ct l yX14_pack cX14_pack 7 none 3 68 (sp_rpck t S0 F z Y R kz V M ex) := by
  intro t S0 F z Y R kz V M ex
  refine Ct.of (fX14, nX14, aX14, iX14, lX14, [(326, 0, 2, 0, T_onu), (379, 0, 3, 0, T_rpp)], qX14, gX14, []) false tX14_pack (fun _ S => look [(19, ([0,1,2], I_rk1 t F z Y R kz V M ex S0)), (38, ([0,1,2,3,4,5], I_rk2 t F z Y R kz V M ex S0)), (55, ([0,1,2,3,4,5,6], I_rk3 t F z Y R kz V M ex S0)), (131, ([0,1,2,3,4], I_rk4 t F z Y R kz V M ex S0)), (112, ([0,1,2,3,4,5,6], I_rk5 t F z Y R kz V M ex S0))]) (by decide) (by decide) kX14_pack ⟨_, _, rfl⟩ fX14_ok nX14_ok aX14_ok iX14_ok lX14_ok (fun p e R s m args below meth c Q D cy z r A C hR1 hR2 => List.forall_mem_cons.mpr ⟨cOK_use (fun _ _ _ _ _ _ _ _ h => let ⟨sp, h1, h2, h3⟩ := u_onu l _ _ _ _ _ _ _ _ h; ⟨sp, cOK_V C h1 vX14_pack_326 ⟨by decide, by decide, by decide +kernel⟩ ⟨by rw [hR1]; decide, by rw [hR2]; decide⟩ (k := 14) (T := TX13) (N := 2) rfl (by decide) h2, h3⟩), List.forall_mem_cons.mpr ⟨cOK_use (fun _ _ _ _ _ _ _ _ h => let ⟨sp, h1, h2, h3⟩ := u_rpp l _ _ _ _ _ _ _ _ h; ⟨sp, cOK_V C h1 vX14_pack_379 ⟨by decide, by decide, by decide +kernel⟩ ⟨by rw [hR1]; decide, by rw [hR2]; decide⟩ (k := 15) (T := TX14) (N := 52) rfl (by decide) h2, h3⟩), fun _ h => absurd h List.not_mem_nil⟩⟩) qX14_ok gX14_ok rfl ?_ ?_
  · rintro _ S ⟨rfl, hp⟩
    refine ⟨Nat.le_of_ble_eq_true rfl, 300, ?_⟩
    show (isO S 15 t ∧ (isO S 15 t ∧ (pa (mR S 1530 t) fun a_1 => isO S 14 a_1 ∧ (0 = 0 ∧ ((pa (mR S 1529 t) fun a_2 => (∃ (cb_3 : Nat) (B_4 : List Nat) (n_5 : Nat), (Ou S a_2 cb_3 B_4 ∧ ((mI S 1401 a_1).toInt64) = lN n_5 ∧ n_5 < 2 ^ 35 ∧ B_4.length + 5 ≤ 1000000) ∧ 0 ≤ 0 ∧ 0 ≤ 0 ∧ (∀ (S_6 : MM), (ouP S S_6 a_2 cb_3 (B_4 ++ vbN 5 n_5)) → (∃ k1, I_rk1 t F z Y R kz V M ex S0 k1 [(0, .inr (.inr (some t))), (1, .inl (0 : Int32)), (2, .inl (0 : Int32))] [] S_6 0 0)))))))))
    obtain ⟨hW, hV4, h5⟩ := hp
    have hM := hW.1
    have o5 := hW.2.1 5 (by decide)
    have e01 : mI S 1401 (z 30) = nI (V 5).length := by
      have := o5.2.2.2.2.1
      rw [vB_len] at this
      exact this
    have b3 := vbs_le3 (v := (V 5).length) (by omega)
    refine ⟨(hM 0).1, (hM 0).1, pa_i (hM 10 30 (Or.inr (by decide))).1 ⟨o5.1, rfl, pa_i (hM 10 29 (Or.inr (by decide))).1 ⟨z (70 + 29), _, (V 5).length, ⟨hW.2.1 4 (by decide), by rw [e01]; exact nI_l (by omega), by omega, by rw [vB_len, hV4]; decide⟩, Nat.le_refl _, Nat.le_refl _, fun S6 q => ?_⟩⟩⟩
    have W6 := hW.num (k0 := 4) (by decide) (by omega) q
    rw [hV4, List.nil_append] at W6
    refine ⟨_, 0, 0, (V 5).length, _, rfl, Nat.le_refl _, Nat.zero_le _, by omega, ?_, by omega, W6, rfl, rfl, rfl, rfl⟩
    unfold packV
    rw [vB_len]
  · intro av S hpre pc I hI k lo st S1 cs sl h
    obtain ⟨rfl, hp⟩ := hpre
    have hm := look_in hI
    simp only [List.mem_cons, List.not_mem_nil, or_false] at hm
    rcases hm with hm | hm | hm | hm | hm
    · cases hm
      obtain ⟨i, p, f, vs, rfl, hi, hpl, hf, he, hvl, hW, rfl, rfl, rfl, rfl⟩ := h
      refine ⟨300, ?_⟩
      show (isO S1 15 t ∧ (pa (mR S1 1530 t) fun a_1 => isO S1 14 a_1 ∧ (((mI S1 1401 a_1) ≤ (nI p) → (0 = 0 ∧ (∃ (a_2 : Nat), nI i = nI a_2 ∧ (∃ (b_3 : Nat), nI p = nI b_3 ∧ (∃ (F_4 : Nat → Nat × Nat) (z_5 : Nat → Nat) (Y_6 : Nat → Nat → Nat) (R_7 : Rb) (kz_8 : Nat → Nat) (U_9 Pk_10 : List Nat), (MD S1 F_4 t z_5 Y_6 R_7 kz_8 ∧ Ou S1 (z_5 30) (z_5 (70 + 30)) U_9 ∧ Ou S1 (z_5 29) (z_5 (70 + 29)) Pk_10 ∧ a_2 ≤ b_3 ∧ b_3 ≤ U_9.length ∧ b_3 ≤ 32776 ∧ Pk_10.length + 10 + (b_3 - a_2) ≤ 1000000) ∧ 0 ≤ 0 ∧ 0 ≤ 0 ∧ (∀ (S_11 : MM), (ouQ S1 S_11 F_4 t z_5 Y_6 R_7 kz_8 29 (Pk_10 ++ rpB U_9 a_2 b_3)) → (([] : List MV) = [] ∧ mret none (sp_rpck t S0 F z Y R kz V M ex) [.inr (.inr (some t))] S none S_11 0 0))))))) ∧ (¬ (mI S1 1401 a_1) ≤ (nI p) → (∃ k1, k1 < (((V 5).length - p) * 1000000 + 900000) ∧ I_rk2 t F z Y R kz V M ex S0 k1 [(0, .inr (.inr (some t))), (1, .inl (nI i)), (2, .inl (nI p)), (3, .inl (0 : Int32)), (4, .inl (0 : Int32)), (5, .inl (1 : Int32))] [] S1 0 0)))))
      obtain ⟨hW0, hV4, h5⟩ := hp
      have hM := hW.1
      have o5 : Ou S1 (z 30) (z (70 + 30)) (vB (V 5)) := hW.2.1 5 (by decide)
      have o4 := hW.ou (k0 := 4) (by decide)
      have e01 : mI S1 1401 (z 30) = nI (V 5).length := by
        have := o5.2.2.2.2.1
        rw [vB_len] at this
        exact this
      refine ⟨(hM 0).1, pa_i (hM 10 30 (Or.inr (by decide))).1 ⟨o5.1, ?_⟩⟩
      rw [e01]
      refine if_le (by omega) (by omega) (fun w => ?_) (fun w => ?_)
      · refine ⟨rfl, i, rfl, p, rfl, F, z, Y, R, kz, vB (V 5), vB vs, ⟨hM, o5, o4, hi, by rw [vB_len]; exact hpl, by omega, by rw [vB_len]; omega⟩, Nat.le_refl _, Nat.le_refl _, fun S11 hQ => ⟨rfl, trivial, ⟨rfl, ?_⟩, Nat.le_refl _, Nat.le_refl _⟩⟩
        obtain ⟨-, q2, q3⟩ := hQ
        rw [← vB_pln (vB_lt _) hi (by rw [vB_len]; exact hpl) (by rw [vB_len]; omega), ← vB_app] at q2
        have := hW.out (k0 := 4) (by decide) q2 q3
        rw [updI_u] at this
        have hp9 : pkGo (vB (V 5)) f i p = plnV (vB (V 5)) i p := by
          cases f with
          | zero => rfl
          | succ f => rw [pkGo, if_neg (by rw [vB_len]; omega)]
        rw [he, hp9]
        refine ⟨this, ?_⟩
        have bp := pln_len (V := V) hi hpl (by omega)
        rw [List.length_append]; omega
      · exact ⟨((V 5).length - p) * 1000000 + 100 * (5000 - 0) + 99, by omega, i, p, f, vs, 0, rfl, hi, w, hf, he, hvl, hW, Nat.zero_le _, rfl, rfl, rfl, rfl⟩
    · cases hm
      obtain ⟨i, p, f, vs, d, rfl, hi, hpl, hf, he, hvl, hW, hd, rfl, rfl, rfl, rfl⟩ := h
      refine ⟨300, ?_⟩
      show (((nI p) < (nI (d + 1)) → (∃ k1, k1 < (((V 5).length - p) * 1000000 + 100 * (5000 - d) + 99) ∧ I_rk4 t F z Y R kz V M ex S0 k1 [(0, .inr (.inr (some t))), (1, .inl (nI i)), (2, .inl (nI p)), (3, .inl (nI (bst (vB (V 5)) p (min 64 ((V 5).length - p)) d).1)), (4, .inl (nI (bst (vB (V 5)) p (min 64 ((V 5).length - p)) d).2))] [] S1 0 0)) ∧ (¬ (nI p) < (nI (d + 1)) → (((4095 : Int32) < (nI (d + 1)) → (∃ k1, k1 < (((V 5).length - p) * 1000000 + 100 * (5000 - d) + 99) ∧ I_rk4 t F z Y R kz V M ex S0 k1 [(0, .inr (.inr (some t))), (1, .inl (nI i)), (2, .inl (nI p)), (3, .inl (nI (bst (vB (V 5)) p (min 64 ((V 5).length - p)) d).1)), (4, .inl (nI (bst (vB (V 5)) p (min 64 ((V 5).length - p)) d).2))] [] S1 0 0)) ∧ (¬ (4095 : Int32) < (nI (d + 1)) → (∃ k1, k1 < (((V 5).length - p) * 1000000 + 100 * (5000 - d) + 99) ∧ I_rk3 t F z Y R kz V M ex S0 k1 [(0, .inr (.inr (some t))), (1, .inl (nI i)), (2, .inl (nI p)), (3, .inl (nI (bst (vB (V 5)) p (min 64 ((V 5).length - p)) d).1)), (4, .inl (nI (bst (vB (V 5)) p (min 64 ((V 5).length - p)) d).2)), (5, .inl (nI (d + 1))), (6, .inl (0 : Int32))] [] S1 0 0)))))
      obtain ⟨hW0, hV4, h5⟩ := hp
      have eb : d = min p 4095 → best (vB (V 5)) p = bst (vB (V 5)) p (min 64 ((V 5).length - p)) d := fun e => by
        unfold best
        rw [vB_len, ← e]
      refine if_lt (by omega) (by omega) (fun w => ⟨((V 5).length - p) * 1000000 + 50, by omega, i, p, f, vs, rfl, hi, hpl, hf, he, hvl, hW, by rw [eb (by omega)], rfl, rfl, rfl⟩) (fun w => if_lt (a := 4095) (by decide) (by omega) (fun w2 => ⟨((V 5).length - p) * 1000000 + 50, by omega, i, p, f, vs, rfl, hi, hpl, hf, he, hvl, hW, by rw [eb (by omega)], rfl, rfl, rfl⟩) (fun w2 => ⟨((V 5).length - p) * 1000000 + 100 * (5000 - d) + 1 + min 64 ((V 5).length - p), by omega, i, p, f, vs, d, 0, min 64 ((V 5).length - p), rfl, by omega, hi, hpl, hf, he, hvl, hW, by omega, rfl, rfl, rfl, rfl, rfl⟩))
    · cases hm
      obtain ⟨i, p, f, vs, d, n, j, rfl, hn, hi, hpl, hf, he, hvl, hW, hd, hml, rfl, rfl, rfl, rfl⟩ := h
      refine ⟨300, ?_⟩
      show (((64 : Int32) ≤ (nI n) → (∃ k1, k1 < (((V 5).length - p) * 1000000 + 100 * (5000 - d) + 1 + j) ∧ I_rk5 t F z Y R kz V M ex S0 k1 [(0, .inr (.inr (some t))), (1, .inl (nI i)), (2, .inl (nI p)), (3, .inl (nI (bst (vB (V 5)) p (min 64 ((V 5).length - p)) d).1)), (4, .inl (nI (bst (vB (V 5)) p (min 64 ((V 5).length - p)) d).2)), (5, .inl (nI (d + 1))), (6, .inl (nI n))] [] S1 0 0)) ∧ (¬ (64 : Int32) ≤ (nI n) → (isO S1 15 t ∧ (pa (mR S1 1530 t) fun a_1 => isO S1 14 a_1 ∧ (((mI S1 1401 a_1) ≤ ((nI p) + (nI n)) → (∃ k1, k1 < (((V 5).length - p) * 1000000 + 100 * (5000 - d) + 1 + j) ∧ I_rk5 t F z Y R kz V M ex S0 k1 [(0, .inr (.inr (some t))), (1, .inl (nI i)), (2, .inl (nI p)), (3, .inl (nI (bst (vB (V 5)) p (min 64 ((V 5).length - p)) d).1)), (4, .inl (nI (bst (vB (V 5)) p (min 64 ((V 5).length - p)) d).2)), (5, .inl (nI (d + 1))), (6, .inl (nI n))] [] S1 0 0)) ∧ (¬ (mI S1 1401 a_1) ≤ ((nI p) + (nI n)) → (isO S1 15 t ∧ (pa (mR S1 1530 t) fun a_2 => isO S1 14 a_2 ∧ (pa (mR S1 1400 a_2) fun a_3 => (isO S1 16 a_3 ∨ isO S1 20 a_3) ∧ inR S1 a_3 ((nI p) + (nI n)) ∧ (isO S1 15 t ∧ (pa (mR S1 1530 t) fun a_4 => isO S1 14 a_4 ∧ (pa (mR S1 1400 a_4) fun a_5 => (isO S1 16 a_5 ∨ isO S1 20 a_5) ∧ inR S1 a_5 (((nI p) + (nI n)) - (nI (d + 1))) ∧ ((¬ (eI S1 a_3 ((nI p) + (nI n)).toNatClampNeg) = (eI S1 a_5 (((nI p) + (nI n)) - (nI (d + 1))).toNatClampNeg) → (∃ k1, k1 < (((V 5).length - p) * 1000000 + 100 * (5000 - d) + 1 + j) ∧ I_rk5 t F z Y R kz V M ex S0 k1 [(0, .inr (.inr (some t))), (1, .inl (nI i)), (2, .inl (nI p)), (3, .inl (nI (bst (vB (V 5)) p (min 64 ((V 5).length - p)) d).1)), (4, .inl (nI (bst (vB (V 5)) p (min 64 ((V 5).length - p)) d).2)), (5, .inl (nI (d + 1))), (6, .inl (nI n))] [] S1 0 0)) ∧ ((eI S1 a_3 ((nI p) + (nI n)).toNatClampNeg) = (eI S1 a_5 (((nI p) + (nI n)) - (nI (d + 1))).toNatClampNeg) → (∃ k1, k1 < (((V 5).length - p) * 1000000 + 100 * (5000 - d) + 1 + j) ∧ I_rk3 t F z Y R kz V M ex S0 k1 [(0, .inr (.inr (some t))), (1, .inl (nI i)), (2, .inl (nI p)), (3, .inl (nI (bst (vB (V 5)) p (min 64 ((V 5).length - p)) d).1)), (4, .inl (nI (bst (vB (V 5)) p (min 64 ((V 5).length - p)) d).2)), (5, .inl (nI (d + 1))), (6, .inl ((nI n) + (1 : Int32)))] [] S1 0 0)))))))))))))))
      obtain ⟨hW0, hV4, h5⟩ := hp
      have hM := hW.1
      have o5 : Ou S1 (z 30) (z (70 + 30)) (vB (V 5)) := hW.2.1 5 (by decide)
      have e01 : mI S1 1401 (z 30) = nI (V 5).length := by
        have := o5.2.2.2.2.1
        rw [vB_len] at this
        exact this
      have fin : mlen (vB (V 5)) p (d + 1) (min 64 ((V 5).length - p)) = n → ∃ k1, k1 < (((V 5).length - p) * 1000000 + 100 * (5000 - d) + 1 + j) ∧ I_rk5 t F z Y R kz V M ex S0 k1 [(0, .inr (.inr (some t))), (1, .inl (nI i)), (2, .inl (nI p)), (3, .inl (nI (bst (vB (V 5)) p (min 64 ((V 5).length - p)) d).1)), (4, .inl (nI (bst (vB (V 5)) p (min 64 ((V 5).length - p)) d).2)), (5, .inl (nI (d + 1))), (6, .inl (nI n))] [] S1 0 0 := fun e => ⟨((V 5).length - p) * 1000000 + 100 * (5000 - d), by omega, i, p, f, vs, d, rfl, hi, hpl, hf, he, hvl, hW, hd, by rw [e], rfl, rfl, rfl⟩
      refine if_le (a := 64) (by decide) (by omega) (fun w => fin ?_) (fun w => ⟨(hM 0).1, pa_i (hM 10 30 (Or.inr (by decide))).1 ⟨o5.1, ?_⟩⟩)
      · have : j = 0 := by omega
        subst this
        rw [hml]; rfl
      · rw [e01, nI_add]
        refine if_le (by omega) (by omega) (fun w2 => fin ?_) (fun w2 => ⟨(hM 0).1, pa_i (hM 10 30 (Or.inr (by decide))).1 ⟨o5.1, pa_i o5.2.1 ⟨Or.inl o5.2.2.1, inRn o5.2.2.2.1 (by omega) (by decide), (hM 0).1, pa_i (hM 10 30 (Or.inr (by decide))).1 ⟨o5.1, pa_i o5.2.1 ⟨Or.inl o5.2.2.1, ?_, ?_⟩⟩⟩⟩⟩)
        · have : j = 0 := by omega
          subst this
          rw [hml]; rfl
        · rw [pk_sub (show d + 1 ≤ p + n by omega)]
          exact inRn o5.2.2.2.1 (by omega) (by decide)
        · rw [pk_sub (show d + 1 ≤ p + n by omega), nI_clamp (show p + n < 2147483648 by omega), nI_clamp (show p + n - (d + 1) < 2147483648 by omega)]
          obtain ⟨j, rfl⟩ : ∃ j', j = j' + 1 := ⟨j - 1, by omega⟩
          have c1 := o5.2.2.2.2.2.2.2.2 (p + n) (by rw [vB_len]; omega) (by omega)
          have c2 := o5.2.2.2.2.2.2.2.2 (p + n - (d + 1)) (by rw [vB_len]; omega) (by omega)
          have f9 := o5.2.2.2.2.2.2.2.1
          have g1 := getD_lt (vB_lt (V 5)) (p + n)
          have g2 := getD_lt (vB_lt (V 5)) (p + n - (d + 1))
          rw [mlenF] at hml
          refine ⟨fun q => fin ?_, fun q => ?_⟩
          · rw [hml, if_neg (fun e => q (byte_inj (f9 _) (f9 _) (by rw [c1, c2, e])))]
          · have e9 : (vB (V 5)).getD (p + n) 0 = (vB (V 5)).getD (p + n - (d + 1)) 0 := by
              rw [q, c2] at c1
              exact ((nI_eq (by omega) (by omega)).1 c1).symm
            rw [if_pos e9] at hml
            exact ⟨((V 5).length - p) * 1000000 + 100 * (5000 - d) + 1 + j, by omega, i, p, f, vs, d, n + 1, j, rfl, by omega, hi, hpl, hf, he, hvl, hW, hd, hml, by rw [nI_1], rfl, rfl, rfl⟩
    · cases hm
      obtain ⟨i, p, f, vs, rfl, hi, hpl, hf, he, hvl, hW, rfl, rfl, rfl, rfl⟩ := h
      refine ⟨300, ?_⟩
      show (((4 : Int32) ≤ (nI (best (vB (V 5)) p).1) → (0 = 0 ∧ (∃ (a_1 : Nat), nI i = nI a_1 ∧ (∃ (b_2 : Nat), nI p = nI b_2 ∧ (∃ (F_3 : Nat → Nat × Nat) (z_4 : Nat → Nat) (Y_5 : Nat → Nat → Nat) (R_6 : Rb) (kz_7 : Nat → Nat) (U_8 Pk_9 : List Nat), (MD S1 F_3 t z_4 Y_5 R_6 kz_7 ∧ Ou S1 (z_4 30) (z_4 (70 + 30)) U_8 ∧ Ou S1 (z_4 29) (z_4 (70 + 29)) Pk_9 ∧ a_1 ≤ b_2 ∧ b_2 ≤ U_8.length ∧ b_2 ≤ 32776 ∧ Pk_9.length + 10 + (b_2 - a_1) ≤ 1000000) ∧ 0 ≤ 0 ∧ 0 ≤ 0 ∧ (∀ (S_10 : MM), (ouQ S1 S_10 F_3 t z_4 Y_5 R_6 kz_7 29 (Pk_9 ++ rpB U_8 a_1 b_2)) → (isO S_10 15 t ∧ (0 = 0 ∧ ((pa (mR S_10 1529 t) fun a_11 => (∃ (cb_12 : Nat) (B_13 : List Nat) (n_14 : Nat), (Ou S_10 a_11 cb_12 B_13 ∧ (((2 : Int64) * ((nI (best (vB (V 5)) p).1).toInt64)) + (1 : Int64)) = lN n_14 ∧ n_14 < 2 ^ 35 ∧ B_13.length + 5 ≤ 1000000) ∧ 0 ≤ 0 ∧ 0 ≤ 0 ∧ (∀ (S_15 : MM), (ouP S_10 S_15 a_11 cb_12 (B_13 ++ vbN 5 n_14)) → (isO S_15 15 t ∧ (0 = 0 ∧ ((pa (mR S_15 1529 t) fun a_16 => (∃ (cb_17 : Nat) (B_18 : List Nat) (n_19 : Nat), (Ou S_15 a_16 cb_17 B_18 ∧ ((nI (best (vB (V 5)) p).2).toInt64) = lN n_19 ∧ n_19 < 2 ^ 35 ∧ B_18.length + 5 ≤ 1000000) ∧ 0 ≤ 0 ∧ 0 ≤ 0 ∧ (∀ (S_20 : MM), (ouP S_15 S_20 a_16 cb_17 (B_18 ++ vbN 5 n_19)) → (∃ k1, k1 < (((V 5).length - p) * 1000000 + 50) ∧ I_rk1 t F z Y R kz V M ex S0 k1 [(0, .inr (.inr (some t))), (1, .inl ((nI p) + (nI (best (vB (V 5)) p).1))), (2, .inl ((nI p) + (nI (best (vB (V 5)) p).1)))] [] S_20 0 0))))))))))))))))))) ∧ (¬ (4 : Int32) ≤ (nI (best (vB (V 5)) p).1) → (∃ k1, k1 < (((V 5).length - p) * 1000000 + 50) ∧ I_rk1 t F z Y R kz V M ex S0 k1 [(0, .inr (.inr (some t))), (1, .inl (nI i)), (2, .inl ((nI p) + (1 : Int32)))] [] S1 0 0)))
      obtain ⟨hW0, hV4, h5⟩ := hp
      have hM := hW.1
      have o5 : Ou S1 (z 30) (z (70 + 30)) (vB (V 5)) := hW.2.1 5 (by decide)
      have o4 := hW.ou (k0 := 4) (by decide)
      have bl := best_le (vB (V 5)) p
      rw [vB_len] at bl
      obtain ⟨f, rfl⟩ : ∃ f', f = f' + 1 := ⟨f - 1, by omega⟩
      rw [pkGo, if_pos (by rw [vB_len]; exact hpl)] at he
      refine if_le (a := 4) (by decide) (by omega) (fun w => ?_) (fun w => ?_)
      · rw [if_pos w] at he
        have bb : (best (vB (V 5)) p).2 ≤ 4095 := by
          have := (bst_ch (vB (V 5)) p (min 64 ((vB (V 5)).length - p)) (min p 4095)).2 (show (best (vB (V 5)) p).1 ≠ 0 by omega)
          have := this.2.1
          show (bst _ _ _ _).2 ≤ _
          omega
        have b1 := vbs_le2 (v := 2 * (best (vB (V 5)) p).1 + 1) (by omega)
        have b2 := vbs_le2 (v := (best (vB (V 5)) p).2) (by omega)
        have bp := pln_len (V := V) hi (Nat.le_of_lt hpl) (by omega)
        refine ⟨rfl, i, rfl, p, rfl, F, z, Y, R, kz, vB (V 5), vB vs, ⟨hM, o5, o4, hi, by rw [vB_len]; omega, by omega, by rw [vB_len]; omega⟩, Nat.le_refl _, Nat.le_refl _, fun S10 hQ => ?_⟩
        obtain ⟨-, q2, q3⟩ := hQ
        rw [← vB_pln (vB_lt _) hi (by rw [vB_len]; omega) (by rw [vB_len]; omega), ← vB_app] at q2
        have W10 := hW.out (k0 := 4) (by decide) q2 q3
        rw [updI_u] at W10
        refine ⟨(W10.1 0).1, rfl, pa_i (W10.1 10 29 (Or.inr (by decide))).1 ⟨z (70 + 29), _, 2 * (best (vB (V 5)) p).1 + 1, ⟨W10.ou (k0 := 4) (by decide), ?_, by omega, by rw [vB_len, List.length_append]; omega⟩, Nat.le_refl _, Nat.le_refl _, fun S15 q15 => ?_⟩⟩
        · rw [nI_l (by omega), lN_dbl]
          exact lN_plus _ 1
        · have W15 := W10.numX (k0 := 4) (by decide) (by omega) q15
          refine ⟨(W15.1 0).1, rfl, pa_i (W15.1 10 29 (Or.inr (by decide))).1 ⟨z (70 + 29), _, (best (vB (V 5)) p).2, ⟨W15.ou (k0 := 4) (by decide), nI_l (by omega), by omega, by rw [vB_len, List.length_append, List.length_append]; omega⟩, Nat.le_refl _, Nat.le_refl _, fun S20 q20 => ?_⟩⟩
          have W20 := W15.numX (k0 := 4) (by decide) (by omega) q20
          rw [nI_add]
          refine ⟨((V 5).length - (p + (best (vB (V 5)) p).1)) * 1000000 + 900000, by omega, p + (best (vB (V 5)) p).1, p + (best (vB (V 5)) p).1, f, _, rfl, Nat.le_refl _, by omega, by omega, ?_, ?_, W20, rfl, rfl, rfl, rfl⟩
          · rw [he]
            simp only [List.append_assoc]
          · rw [List.length_append, List.length_append, List.length_append]; omega
      · rw [if_neg (by omega)] at he
        exact ⟨((V 5).length - (p + 1)) * 1000000 + 900000, by omega, i, p + 1, f, vs, rfl, by omega, hpl, by omega, he, hvl, hW, by rw [nI_1], rfl, rfl, rfl⟩
    · cases hm
      obtain ⟨i, p, f, vs, d, rfl, hi, hpl, hf, he, hvl, hW, hd, rfl, rfl, rfl, rfl⟩ := h
      refine ⟨300, ?_⟩
      show (((nI (mlen (vB (V 5)) p (d + 1) (min 64 ((V 5).length - p)))) ≤ (nI (bst (vB (V 5)) p (min 64 ((V 5).length - p)) d).1) → (∃ k1, k1 < (((V 5).length - p) * 1000000 + 100 * (5000 - d)) ∧ I_rk2 t F z Y R kz V M ex S0 k1 [(0, .inr (.inr (some t))), (1, .inl (nI i)), (2, .inl (nI p)), (3, .inl (nI (bst (vB (V 5)) p (min 64 ((V 5).length - p)) d).1)), (4, .inl (nI (bst (vB (V 5)) p (min 64 ((V 5).length - p)) d).2)), (5, .inl ((nI (d + 1)) + (1 : Int32)))] [] S1 0 0)) ∧ (¬ (nI (mlen (vB (V 5)) p (d + 1) (min 64 ((V 5).length - p)))) ≤ (nI (bst (vB (V 5)) p (min 64 ((V 5).length - p)) d).1) → (∃ k1, k1 < (((V 5).length - p) * 1000000 + 100 * (5000 - d)) ∧ I_rk2 t F z Y R kz V M ex S0 k1 [(0, .inr (.inr (some t))), (1, .inl (nI i)), (2, .inl (nI p)), (3, .inl (nI (mlen (vB (V 5)) p (d + 1) (min 64 ((V 5).length - p))))), (4, .inl (nI (d + 1))), (5, .inl ((nI (d + 1)) + (1 : Int32)))] [] S1 0 0)))
      obtain ⟨hW0, hV4, h5⟩ := hp
      have ml := mlen_le (vB (V 5)) p (d + 1) (min 64 ((V 5).length - p))
      have es : bst (vB (V 5)) p (min 64 ((V 5).length - p)) (d + 1) = if (bst (vB (V 5)) p (min 64 ((V 5).length - p)) d).1 < mlen (vB (V 5)) p (d + 1) (min 64 ((V 5).length - p)) then (mlen (vB (V 5)) p (d + 1) (min 64 ((V 5).length - p)), d + 1) else bst (vB (V 5)) p (min 64 ((V 5).length - p)) d := rfl
      have bl : (bst (vB (V 5)) p (min 64 ((V 5).length - p)) d).1 ≤ 64 := by
        by_cases c : (bst (vB (V 5)) p (min 64 ((V 5).length - p)) d).1 = 0
        · omega
        · have := ((bst_ch (vB (V 5)) p (min 64 ((V 5).length - p)) d).2 c).2.2.1
          have m9 := mlen_le (vB (V 5)) p (bst (vB (V 5)) p (min 64 ((V 5).length - p)) d).2 (min 64 ((V 5).length - p))
          omega
      refine if_le (by omega) (by omega) (fun w => ⟨((V 5).length - p) * 1000000 + 100 * (5000 - (d + 1)) + 99, by omega, i, p, f, vs, d + 1, rfl, hi, hpl, hf, he, hvl, hW, hd, ?_, rfl, rfl, rfl⟩) (fun w => ⟨((V 5).length - p) * 1000000 + 100 * (5000 - (d + 1)) + 99, by omega, i, p, f, vs, d + 1, rfl, hi, hpl, hf, he, hvl, hW, hd, ?_, rfl, rfl, rfl⟩)
      · rw [es, if_neg (by omega), nI_1]
      · rw [es, if_pos w, nI_1]
theorem u_rpck (l : Launch) : Us l yX14_pack cX14_pack 7 none 3 68 15 T_rpck := by
  intro Rc Rs av S cs sl K Kx h
  unfold T_rpck at h
  split at h
  · rename_i t_o
    obtain ⟨t, rfl, h_1⟩ := pa_of h
    obtain ⟨S0, F, z, Y, R, kz, V, M, ex, hp, hc, hs, hk⟩ := h_1
    refine ⟨(sp_rpck t S0 F z Y R kz V M ex), c_rpck l t S0 F z Y R kz V M ex, fun _ _ h9 => ⟨_, _, h9.1, (h9.2.1.1 0).1⟩, ⟨rfl, hp⟩, hc, hs, fun S' h8 => by
      obtain ⟨-, h8⟩ := h8
      exact hk _ h8, fun _ _ q => q.elim⟩
  · exact h.elim
