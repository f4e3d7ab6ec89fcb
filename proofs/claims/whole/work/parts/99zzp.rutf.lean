/-! ===== The reference: write (a character as UTF-8) ===== -/
def rU2 (c : Nat) : List Nat := if c < 128 then [b8 (nI c)] else if c < 2048 then [b8 (192 ||| nI c >>> ((6 : Int32) &&& 31)), b8 (128 ||| nI c &&& 63)] else if c < 65536 then [b8 (224 ||| nI c >>> ((12 : Int32) &&& 31)), b8 (128 ||| nI c >>> ((6 : Int32) &&& 31) &&& 63), b8 (128 ||| nI c &&& 63)] else [b8 (240 ||| nI c >>> ((18 : Int32) &&& 31)), b8 (128 ||| nI c >>> ((12 : Int32) &&& 31) &&& 63), b8 (128 ||| nI c >>> ((6 : Int32) &&& 31) &&& 63), b8 (128 ||| nI c &&& 63)]
def rU1 : Option Nat → List Nat
  | none => []
  | some c => rU2 c
theorem ouStep {S S1 : MM} {F : Nat → Nat × Nat} {t : Nat} {z : Nat → Nat} {Y : Nat → Nat → Nat} {R : Rb} {kz : Nat → Nat} {B : List Nat} {v : Int32} {P : MM → Prop} (h : MD S F t z Y R kz) (k : Keep (fun c => c = z 30 ∨ c = z (70 + 30)) S S1) (o : Ou S1 (z 30) (z (70 + 30)) B) (hl : B.length < 1000000) (hP : ∀ S2, Ou S2 (z 30) (z (70 + 30)) (B ++ [b8 v]) → Keep (fun c => c = z 30 ∨ c = z (70 + 30)) S S2 → P S2) : isO S1 15 t ∧ (0 : Nat) = 0 ∧ pa (mR S1 1530 t) fun a => ∃ (cb : Nat) (B' : List Nat), (Ou S1 a cb B' ∧ B'.length < 1000000) ∧ 0 ≤ 0 ∧ 0 ≤ 0 ∧ ∀ S2 : MM, ouP S1 S2 a cb (B' ++ [b8 v]) → P S2 := by
  have m := (h.out (k0 := 30) (Or.inr (by decide)) k o).1
  exact ⟨(m 0).1, rfl, pa_i (m 10 30 (Or.inr (by decide))).1 ⟨z (70 + 30), B, ⟨o, hl⟩, Nat.le_refl _, Nat.le_refl _, fun S2 q => hP S2 q.1 (k.tr q.2)⟩⟩
def T_rwu : TR := fun Rc Rs av S cs sl K _Kx => match av with
  | [.inr (.inr t_o), .inr (.inr g_o), .inl e_v] => pa t_o fun t => (pa g_o fun g => (∃ (e : Nat), e_v = nI e ∧ (∃ (F : Nat → Nat × Nat) (z : Nat → Nat) (Y : Nat → Nat → Nat) (R : Rb) (kz : Nat → Nat) (p : Nat) (U : List Nat), (MD S F t z Y R kz ∧ p < 4 ∧ g = Y p 0 ∧ e < (R.Q.G p).n ∧ (((R.Q.G p).ev e).ch = none → ((R.Q.G p).ev e).tg < 8192) ∧ (∀ c, ((R.Q.G p).ev e).ch = some c → c < 2000000) ∧ Ou S (z 30) (z (70 + 30)) U ∧ U.length + 4 ≤ 1000000) ∧ cs ≤ Rc ∧ sl ≤ Rs ∧ (∀ (S' : MM), (ouQ S S' F t z Y R kz 30 (U ++ rU1 ((R.Q.G p).ev e).ch)) → K none S' cs sl))))
  | _ => False
def sp_rwu (t : Nat) (g : Nat) (e : Nat) (F : Nat → Nat × Nat) (z : Nat → Nat) (Y : Nat → Nat → Nat) (R : Rb) (kz : Nat → Nat) (p : Nat) (U : List Nat) : Sp := (fun av S => av = [.inr (.inr (some t)), .inr (.inr (some g)), .inl (nI e)] ∧ (MD S F t z Y R kz ∧ p < 4 ∧ g = Y p 0 ∧ e < (R.Q.G p).n ∧ (((R.Q.G p).ev e).ch = none → ((R.Q.G p).ev e).tg < 8192) ∧ (∀ c, ((R.Q.G p).ev e).ch = some c → c < 2000000) ∧ Ou S (z 30) (z (70 + 30)) U ∧ U.length + 4 ≤ 1000000), fun _ S => 0, fun _ S => 0, fun _ S rv S' => rv = none ∧ (ouQ S S' F t z Y R kz 30 (U ++ rU1 ((R.Q.G p).ev e).ch)), fun _ _ _ _ => False)
def tX14_write : CD := [(0, .aload_n 1), (1, .getfield 339), (4, .iload_n 2), (5, .baload), (6, .ifCond .ne 4), (9, .return_), (10, .aload_n 1), (11, .getfield 259), (14, .iload_n 2), (15, .iaload), (16, .istore_n 3), (17, .iload_n 3), (18, .sipush 128), (21, .if_icmp .ge 14), (24, .aload_n 0), (25, .getfield 91), (28, .iload_n 3), (29, .invokevirtual 312), (32, .goto 166), (35, .iload_n 3), (36, .sipush 2048), (39, .if_icmp .ge 36), (42, .aload_n 0), (43, .getfield 91), (46, .sipush 192), (49, .iload_n 3), (50, .bipush 6), (52, .ishr), (53, .ior), (54, .invokevirtual 312), (57, .aload_n 0), (58, .getfield 91), (61, .sipush 128), (64, .iload_n 3), (65, .bipush 63), (67, .iand), (68, .ior), (69, .invokevirtual 312), (72, .goto 126), (75, .iload_n 3), (76, .ldc 162), (78, .if_icmp .ge 54), (81, .aload_n 0), (82, .getfield 91), (85, .sipush 224), (88, .iload_n 3), (89, .bipush 12), (91, .ishr), (92, .ior), (93, .invokevirtual 312), (96, .aload_n 0), (97, .getfield 91), (100, .sipush 128), (103, .iload_n 3), (104, .bipush 6), (106, .ishr), (107, .bipush 63), (109, .iand), (110, .ior), (111, .invokevirtual 312), (114, .aload_n 0), (115, .getfield 91), (118, .sipush 128), (121, .iload_n 3), (122, .bipush 63), (124, .iand), (125, .ior), (126, .invokevirtual 312), (129, .goto 69), (132, .aload_n 0), (133, .getfield 91), (136, .sipush 240), (139, .iload_n 3), (140, .bipush 18), (142, .ishr), (143, .ior), (144, .invokevirtual 312), (147, .aload_n 0), (148, .getfield 91), (151, .sipush 128), (154, .iload_n 3), (155, .bipush 12), (157, .ishr), (158, .bipush 63), (160, .iand), (161, .ior), (162, .invokevirtual 312), (165, .aload_n 0), (166, .getfield 91), (169, .sipush 128), (172, .iload_n 3), (173, .bipush 6), (175, .ishr), (176, .bipush 63), (178, .iand), (179, .ior), (180, .invokevirtual 312), (183, .aload_n 0), (184, .getfield 91), (187, .sipush 128), (190, .iload_n 3), (191, .bipush 63), (193, .iand), (194, .ior), (195, .invokevirtual 312), (198, .return_)]
set_option maxRecDepth 100000 in
theorem kX14_write : chk cX14_write tX14_write = true := by decide +kernel
theorem vX14_write_312 : ∀ w ∈ ([.methodLink RX14 312 yX13_one, .instanceMethod yX13_one, .selects yX13_one.cls yX13_one yX13_one, .initialized yX13_one.cls, .code yX13_one cX13_one 2 none] : List Cond), w ∈ lw_good := List.forall_mem_cons.mpr ⟨mgd 2250 (by decide +kernel) (by decide +kernel), List.forall_mem_cons.mpr ⟨mgd 2251 (by decide +kernel) (by decide +kernel), List.forall_mem_cons.mpr ⟨mgd 2252 (by decide +kernel) (by decide +kernel), List.forall_mem_cons.mpr ⟨mgd 137 (by decide +kernel) (by decide +kernel), List.forall_mem_cons.mpr ⟨mgd 2253 (by decide +kernel) (by decide +kernel), fun _ h => absurd h List.not_mem_nil⟩⟩⟩⟩⟩
set_option maxRecDepth 100000 in
set_option maxHeartbeats 2000000 in
theorem c_rwu (l : Launch) : ∀ (t : Nat) (g : Nat) (e : Nat) (F : Nat → Nat × Nat) (z : Nat → Nat) (Y : Nat → Nat → Nat) (R : Rb) (kz : Nat → Nat) (p : Nat) (U : List Nat), Ct l yX14_write cX14_write 4 none 1 21 (sp_rwu t g e F z Y R kz p U) := by
  intro t g e F z Y R kz p U
  refine Ct.of (fX14, nX14, aX14, iX14, lX14, [(312, 0, 2, 0, T_oon)], qX14, gX14, []) false tX14_write (fun _ _ _ => none) (by decide) (by decide) kX14_write ⟨_, _, rfl⟩ fX14_ok nX14_ok aX14_ok iX14_ok lX14_ok (fun p e R s m args below meth c Q D cy z r A C hR1 hR2 => List.forall_mem_cons.mpr ⟨cOK_use (fun _ _ _ _ _ _ _ _ h => let ⟨sp, h1, h2, h3⟩ := u_oon l _ _ _ _ _ _ _ _ h; ⟨sp, cOK_V C h1 vX14_write_312 ⟨by decide, by decide, by decide +kernel⟩ ⟨by rw [hR1]; decide, by rw [hR2]; decide⟩ (k := 14) (T := TX13) (N := 2) rfl (by decide) h2, h3⟩), fun _ h => absurd h List.not_mem_nil⟩) qX14_ok gX14_ok rfl ?_ ?_
  · rintro _ S ⟨rfl, hp⟩
    refine ⟨Nat.le_of_ble_eq_true rfl, 300, ?_⟩
    show (isO S 13 g ∧ (pa (mR S 1309 g) fun a_1 => (isO S 16 a_1 ∨ isO S 20 a_1) ∧ inR S a_1 (nI e) ∧ ((¬ (eI S a_1 (nI e).toNatClampNeg) = 0 → (isO S 13 g ∧ (pa (mR S 1311 g) fun a_2 => ∃ v_3 : Int32, (isO S 17 a_2 ∧ inR S a_2 (nI e) ∧ v_3 = eI S a_2 (nI e).toNatClampNeg ∨ a_2 = (mQ S).1 ∧ vp_in (nI e) 16 ∧ v_3 = mRem (nI e).toNatClampNeg) ∧ (((128 : Int32) ≤ v_3 → (((2048 : Int32) ≤ v_3 → (((65536 : Int32) ≤ v_3 → (isO S 15 t ∧ (0 = 0 ∧ ((pa (mR S 1530 t) fun a_4 => (∃ (cb_5 : Nat) (B_6 : List Nat), (Ou S a_4 cb_5 B_6 ∧ B_6.length < 1000000) ∧ 0 ≤ 0 ∧ 0 ≤ 0 ∧ (∀ (S_7 : MM), (ouP S S_7 a_4 cb_5 (B_6 ++ [b8 ((240 : Int32) ||| (v_3 >>> ((18 : Int32) &&& 31)))])) → (isO S_7 15 t ∧ (0 = 0 ∧ ((pa (mR S_7 1530 t) fun a_8 => (∃ (cb_9 : Nat) (B_10 : List Nat), (Ou S_7 a_8 cb_9 B_10 ∧ B_10.length < 1000000) ∧ 0 ≤ 0 ∧ 0 ≤ 0 ∧ (∀ (S_11 : MM), (ouP S_7 S_11 a_8 cb_9 (B_10 ++ [b8 ((128 : Int32) ||| ((v_3 >>> ((12 : Int32) &&& 31)) &&& (63 : Int32)))])) → (isO S_11 15 t ∧ (0 = 0 ∧ ((pa (mR S_11 1530 t) fun a_12 => (∃ (cb_13 : Nat) (B_14 : List Nat), (Ou S_11 a_12 cb_13 B_14 ∧ B_14.length < 1000000) ∧ 0 ≤ 0 ∧ 0 ≤ 0 ∧ (∀ (S_15 : MM), (ouP S_11 S_15 a_12 cb_13 (B_14 ++ [b8 ((128 : Int32) ||| ((v_3 >>> ((6 : Int32) &&& 31)) &&& (63 : Int32)))])) → (isO S_15 15 t ∧ (0 = 0 ∧ ((pa (mR S_15 1530 t) fun a_16 => (∃ (cb_17 : Nat) (B_18 : List Nat), (Ou S_15 a_16 cb_17 B_18 ∧ B_18.length < 1000000) ∧ 0 ≤ 0 ∧ 0 ≤ 0 ∧ (∀ (S_19 : MM), (ouP S_15 S_19 a_16 cb_17 (B_18 ++ [b8 ((128 : Int32) ||| (v_3 &&& (63 : Int32)))])) → (([] : List MV) = [] ∧ mret none (sp_rwu t g e F z Y R kz p U) [.inr (.inr (some t)), .inr (.inr (some g)), .inl (nI e)] S none S_19 0 0)))))))))))))))))))))))))) ∧ (¬ (65536 : Int32) ≤ v_3 → (isO S 15 t ∧ (0 = 0 ∧ ((pa (mR S 1530 t) fun a_20 => (∃ (cb_21 : Nat) (B_22 : List Nat), (Ou S a_20 cb_21 B_22 ∧ B_22.length < 1000000) ∧ 0 ≤ 0 ∧ 0 ≤ 0 ∧ (∀ (S_23 : MM), (ouP S S_23 a_20 cb_21 (B_22 ++ [b8 ((224 : Int32) ||| (v_3 >>> ((12 : Int32) &&& 31)))])) → (isO S_23 15 t ∧ (0 = 0 ∧ ((pa (mR S_23 1530 t) fun a_24 => (∃ (cb_25 : Nat) (B_26 : List Nat), (Ou S_23 a_24 cb_25 B_26 ∧ B_26.length < 1000000) ∧ 0 ≤ 0 ∧ 0 ≤ 0 ∧ (∀ (S_27 : MM), (ouP S_23 S_27 a_24 cb_25 (B_26 ++ [b8 ((128 : Int32) ||| ((v_3 >>> ((6 : Int32) &&& 31)) &&& (63 : Int32)))])) → (isO S_27 15 t ∧ (0 = 0 ∧ ((pa (mR S_27 1530 t) fun a_28 => (∃ (cb_29 : Nat) (B_30 : List Nat), (Ou S_27 a_28 cb_29 B_30 ∧ B_30.length < 1000000) ∧ 0 ≤ 0 ∧ 0 ≤ 0 ∧ (∀ (S_31 : MM), (ouP S_27 S_31 a_28 cb_29 (B_30 ++ [b8 ((128 : Int32) ||| (v_3 &&& (63 : Int32)))])) → (([] : List MV) = [] ∧ mret none (sp_rwu t g e F z Y R kz p U) [.inr (.inr (some t)), .inr (.inr (some g)), .inl (nI e)] S none S_31 0 0)))))))))))))))))))))) ∧ (¬ (2048 : Int32) ≤ v_3 → (isO S 15 t ∧ (0 = 0 ∧ ((pa (mR S 1530 t) fun a_32 => (∃ (cb_33 : Nat) (B_34 : List Nat), (Ou S a_32 cb_33 B_34 ∧ B_34.length < 1000000) ∧ 0 ≤ 0 ∧ 0 ≤ 0 ∧ (∀ (S_35 : MM), (ouP S S_35 a_32 cb_33 (B_34 ++ [b8 ((192 : Int32) ||| (v_3 >>> ((6 : Int32) &&& 31)))])) → (isO S_35 15 t ∧ (0 = 0 ∧ ((pa (mR S_35 1530 t) fun a_36 => (∃ (cb_37 : Nat) (B_38 : List Nat), (Ou S_35 a_36 cb_37 B_38 ∧ B_38.length < 1000000) ∧ 0 ≤ 0 ∧ 0 ≤ 0 ∧ (∀ (S_39 : MM), (ouP S_35 S_39 a_36 cb_37 (B_38 ++ [b8 ((128 : Int32) ||| (v_3 &&& (63 : Int32)))])) → (([] : List MV) = [] ∧ mret none (sp_rwu t g e F z Y R kz p U) [.inr (.inr (some t)), .inr (.inr (some g)), .inl (nI e)] S none S_39 0 0)))))))))))))))) ∧ (¬ (128 : Int32) ≤ v_3 → (isO S 15 t ∧ (0 = 0 ∧ ((pa (mR S 1530 t) fun a_40 => (∃ (cb_41 : Nat) (B_42 : List Nat), (Ou S a_40 cb_41 B_42 ∧ B_42.length < 1000000) ∧ 0 ≤ 0 ∧ 0 ≤ 0 ∧ (∀ (S_43 : MM), (ouP S S_43 a_40 cb_41 (B_42 ++ [b8 v_3])) → (([] : List MV) = [] ∧ mret none (sp_rwu t g e F z Y R kz p U) [.inr (.inr (some t)), .inr (.inr (some g)), .inl (nI e)] S none S_43 0 0)))))))))))) ∧ ((eI S a_1 (nI e).toNatClampNeg) = 0 → (([] : List MV) = [] ∧ mret none (sp_rwu t g e F z Y R kz p U) [.inr (.inr (some t)), .inr (.inr (some g)), .inl (nI e)] S none S 0 0)))))
    obtain ⟨h, hp4, rfl, he, hd, hc, hU, hl⟩ := hp
    have g := (h 2 p hp4).2.1
    have hnm := g.nm
    have ce : (nI e).toNatClampNeg = e := nI_clamp (by omega)
    refine ⟨(g 0).1, pa_i g.r9.1 ⟨Or.inr g.r9.2.1, inRn g.r9.2.2 (by omega) (by decide), ?_⟩⟩
    have len : ∀ (L : List Nat), L.length ≤ 3 → (U ++ L).length < 1000000 := fun L hL => by rw [List.length_append]; omega
    cases hch : ((R.Q.G p).ev e).ch with
    | none =>
      have e9 : eI S (Y p 9) (nI e).toNatClampNeg = 0 := by rw [ce]; exact ((g 6 e he).2 hch (hd hch)).1
      refine ⟨fun w => absurd e9 w, fun _ => ⟨rfl, trivial, ⟨rfl, h, ?_, Keep.rf⟩, Nat.le_refl _, Nat.le_refl _⟩⟩
      rw [hch]
      show Ou S _ _ (U ++ [])
      rw [List.append_nil]; exact hU
    | some c =>
      obtain ⟨e9, e11⟩ := (g 6 e he).1 c hch
      have e9 : eI S (Y p 9) (nI e).toNatClampNeg = 1 := by rw [ce]; exact e9
      have c2 := hc c hch
      have fin : ∀ S2, Ou S2 (z 30) (z (70 + 30)) (U ++ rU2 c) → Keep (fun c => c = z 30 ∨ c = z (70 + 30)) S S2 → ouQ S S2 F t z Y R kz 30 (U ++ rU1 ((R.Q.G p).ev e).ch) := fun S2 o k => ⟨(h.out (k0 := 30) (Or.inr (by decide)) k o).1, by rw [hch]; exact o, k⟩
      refine ⟨fun _ => ⟨(g 0).1, rdI (v := nI c) g.r11.1 g.r11.2.1 (inRn g.r11.2.2 (by omega) (by decide)) (by rw [ce]; exact e11) ?_⟩, fun w => absurd (e9.symm.trans w) (by decide)⟩
      refine if_le (a := 128) (by decide) (by omega) (fun w1 => if_le (a := 2048) (by decide) (by omega) (fun w2 => if_le (a := 65536) (by decide) (by omega) (fun w3 => ?_) (fun w3 => ?_)) (fun w2 => ?_)) (fun w1 => ?_)
      · have eU : rU2 c = [b8 (240 ||| nI c >>> ((18 : Int32) &&& 31)), b8 (128 ||| nI c >>> ((12 : Int32) &&& 31) &&& 63), b8 (128 ||| nI c >>> ((6 : Int32) &&& 31) &&& 63), b8 (128 ||| nI c &&& 63)] := by
          unfold rU2
          rw [if_neg (by omega), if_neg (by omega), if_neg (by omega)]
        refine ouStep h Keep.rf hU (by omega) (fun S2 o2 k2 => ouStep h k2 o2 (len _ (Nat.le_of_ble_eq_true rfl)) (fun S3 o3 k3 => ouStep h k3 o3 (by rw [List.append_assoc]; exact len _ (Nat.le_of_ble_eq_true rfl)) (fun S4 o4 k4 => ouStep h k4 o4 (by rw [List.append_assoc, List.append_assoc]; exact len _ (Nat.le_of_ble_eq_true rfl)) (fun S5 o5 k5 => ⟨rfl, trivial, ⟨rfl, fin S5 ?_ k5⟩, Nat.le_refl _, Nat.le_refl _⟩))))
        rw [eU]
        rw [List.append_assoc, List.append_assoc, List.append_assoc] at o5
        exact o5
      · have eU : rU2 c = [b8 (224 ||| nI c >>> ((12 : Int32) &&& 31)), b8 (128 ||| nI c >>> ((6 : Int32) &&& 31) &&& 63), b8 (128 ||| nI c &&& 63)] := by
          unfold rU2
          rw [if_neg (by omega), if_neg (by omega), if_pos (by omega)]
        refine ouStep h Keep.rf hU (by omega) (fun S2 o2 k2 => ouStep h k2 o2 (len _ (Nat.le_of_ble_eq_true rfl)) (fun S3 o3 k3 => ouStep h k3 o3 (by rw [List.append_assoc]; exact len _ (Nat.le_of_ble_eq_true rfl)) (fun S4 o4 k4 => ⟨rfl, trivial, ⟨rfl, fin S4 ?_ k4⟩, Nat.le_refl _, Nat.le_refl _⟩)))
        rw [eU]
        rw [List.append_assoc, List.append_assoc] at o4
        exact o4
      · have eU : rU2 c = [b8 (192 ||| nI c >>> ((6 : Int32) &&& 31)), b8 (128 ||| nI c &&& 63)] := by
          unfold rU2
          rw [if_neg (by omega), if_pos (by omega)]
        refine ouStep h Keep.rf hU (by omega) (fun S2 o2 k2 => ouStep h k2 o2 (len _ (Nat.le_of_ble_eq_true rfl)) (fun S3 o3 k3 => ⟨rfl, trivial, ⟨rfl, fin S3 ?_ k3⟩, Nat.le_refl _, Nat.le_refl _⟩))
        rw [eU]
        rw [List.append_assoc] at o3
        exact o3
      · have eU : rU2 c = [b8 (nI c)] := by
          unfold rU2
          rw [if_pos (by omega)]
        refine ouStep h Keep.rf hU (by omega) (fun S2 o2 k2 => ⟨rfl, trivial, ⟨rfl, fin S2 ?_ k2⟩, Nat.le_refl _, Nat.le_refl _⟩)
        rw [eU]
        exact o2
  · exact fun _ _ _ _ _ h => by cases h
theorem u_rwu (l : Launch) : Us l yX14_write cX14_write 4 none 1 21 15 T_rwu := by
  intro Rc Rs av S cs sl K Kx h
  unfold T_rwu at h
  split at h
  · rename_i t_o g_o e_v
    obtain ⟨t, rfl, h_1⟩ := pa_of h
    obtain ⟨g, rfl, h_2⟩ := pa_of h_1
    obtain ⟨e, rfl, h_3⟩ := h_2
    obtain ⟨F, z, Y, R, kz, p, U, hp, hc, hs, hk⟩ := h_3
    refine ⟨(sp_rwu t g e F z Y R kz p U), c_rwu l t g e F z Y R kz p U, fun _ _ h9 => ⟨_, _, h9.1, (h9.2.1 0).1⟩, ⟨rfl, hp⟩, hc, hs, fun S' h8 => by
      obtain ⟨-, h8⟩ := h8
      exact hk _ h8, fun _ _ q => q.elim⟩
  · exact h.elim
