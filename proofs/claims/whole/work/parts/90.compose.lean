/-! ===== PatchWriter.compose ===== -/
def colV (B : List Nat) : List Int32 := vbs 4 (nI B.length) ++ rngV B 0 B.length
def coV (V : Nat → List Int32) (sn : Int32) : Nat → List Int32
  | 0 => [87, 1, sn]
  | n + 1 => coV V sn n ++ colV (bPuts [] (V n))
def coA (V : Nat → List Int32) (sn : Int32) : List Int32 := coV V sn 5 ++ sealV (crcOf (bPuts [] (coV V sn 5))) 4
theorem coV_le {V : Nat → List Int32} {sn : Int32} {n : Nat} : ∀ {m : Nat}, n ≤ m → (coV V sn n).length ≤ (coV V sn m).length
  | 0, h => by rw [show n = 0 by omega]; exact Nat.le_refl _
  | m + 1, h => by
    rcases Nat.lt_or_ge m n with q | q
    · rw [show n = m + 1 by omega]; exact Nat.le_refl _
    · refine Nat.le_trans (coV_le q) ?_
      rw [coV, List.length_append]
      exact Nat.le_add_right _ _
theorem coA_len {V : Nat → List Int32} {sn : Int32} : (coA V sn).length = (coV V sn 5).length + 4 := by
  unfold coA
  rw [List.length_append, sealV_len]
def coR (S : MM) (F : Nat → Nat × Nat) (j w pk pl me : Nat) (a d : Nat → Nat) (V : Nat → List Int32) (cap : Nat → Nat) (M : List Nat) (o d0 : Nat) (B0 : List Nat) : Prop := PW S F j w pk pl me a d V cap M ∧ By S o d0 B0 ∧ (F o).1 ≠ j ∧ (F d0).1 ≠ j
theorem coR.at {S S1 : MM} {F : Nat → Nat × Nat} {j w pk pl me : Nat} {a d : Nat → Nat} {V : Nat → List Int32} {cap : Nat → Nat} {M : List Nat} {o d0 d1 : Nat} {B0 : List Nat} {vs : List Int32} (h : coR S F j w pk pl me a d V cap M o d0 B0) (ha : App (clr S o) S1 o d0 d1 [] vs) {n : Nat} (hn : n < 5) : isO S1 10 w ∧ mR S1 (1000 + n) w = some (a n) ∧ By S1 (a n) (d n) (bPuts [] (V n)) ∧ a n ≠ o ∧ d n ≠ d1 := by
  obtain ⟨hP, hB, n1, n2⟩ := h
  obtain ⟨f1, f2, f3, f4, hM, h1, h2, h3, h4, hW, hF, hj, hK⟩ := hP
  have hk := ha.keepS
  have hc := hW n (by omega)
  have nJ : ∀ {x r : Nat}, F x = (j, r) → ¬ (x = o ∨ x = d0) := fun hx z => z.elim (fun e => n1 (by rw [← e, hx])) (fun e => n2 (by rw [← e, hx]))
  refine ⟨hk.isO hM.1, ((hk.2.1 w hM.1.1 (nJ f1)).2.1 _).trans (h1 n hn), hc.1.keep hk (nJ hc.2.1) (nJ hc.2.2.1), fun e => nJ hc.2.1 (Or.inl e), fun e => ?_⟩
  rcases ha.2.2.1 with q | q
  · exact nJ hc.2.2.1 (Or.inr (e.trans q))
  · exact q (e ▸ hc.1.2.2.1.1)
def T_wco : TR := fun Rc Rs av S cs sl K _Kx => match av with
  | [.inr (.inr w_o), .inr (.inr o_o), .inl sn] => pa w_o fun w => (pa o_o fun o => (∃ (F : Nat → Nat × Nat) (j pk pl me : Nat) (a d : Nat → Nat) (V : Nat → List Int32) (cap : Nat → Nat) (M : List Nat) (d0 : Nat) (B0 : List Nat), (coR S F j w pk pl me a d V cap M o d0 B0) ∧ cs + (addNC (coA V sn).length (mN S d0) 0) ≤ Rc ∧ sl + (addNS (coA V sn).length (mN S d0) 0) ≤ Rs ∧ (∀ (S' : MM), (∃ d', App (clr S o) S' o d0 d' [] (coA V sn)) → K none S' (cs + (addNC (coA V sn).length (mN S d0) 0)) (sl + (addNS (coA V sn).length (mN S d0) 0)))))
  | _ => False
def sp_wco (w : Nat) (o : Nat) (sn : Int32) (F : Nat → Nat × Nat) (j pk pl me : Nat) (a d : Nat → Nat) (V : Nat → List Int32) (cap : Nat → Nat) (M : List Nat) (d0 : Nat) (B0 : List Nat) : Sp := (fun av S => av = [.inr (.inr (some w)), .inr (.inr (some o)), .inl sn] ∧ (coR S F j w pk pl me a d V cap M o d0 B0), fun _ S => addNC (coA V sn).length (mN S d0) 0, fun _ S => addNS (coA V sn).length (mN S d0) 0, fun _ S rv S' => rv = none ∧ (∃ d', App (clr S o) S' o d0 d' [] (coA V sn)), fun _ _ _ _ => False)
def tX9_compose : CD := [(0, .aload_n 1), (1, .iconst 1), (2, .iload_n 2), (3, .invokevirtual 111), (6, .aload_n 1), (7, .aload_n 0), (8, .getfield 12), (11, .invokevirtual 114), (14, .aload_n 1), (15, .aload_n 0), (16, .getfield 18), (19, .invokevirtual 114), (22, .aload_n 1), (23, .aload_n 0), (24, .getfield 21), (27, .invokevirtual 114), (30, .aload_n 1), (31, .aload_n 0), (32, .getfield 24), (35, .invokevirtual 114), (38, .aload_n 1), (39, .aload_n 0), (40, .getfield 27), (43, .invokevirtual 114), (46, .aload_n 1), (47, .invokevirtual 117), (50, .return_)]
set_option maxRecDepth 100000 in
theorem kX9_compose : chk cX9_compose tX9_compose = true := by decide +kernel
theorem vX9_compose_111 : ∀ w ∈ ([.methodLink RX9 111 yX1_begin, .instanceMethod yX1_begin, .selects yX1_begin.cls yX1_begin yX1_begin, .initialized yX1_begin.cls, .code yX1_begin cX1_begin 3 none] : List Cond), w ∈ lw_good := List.forall_mem_cons.mpr ⟨mgd 1444 (by decide +kernel) (by decide +kernel), List.forall_mem_cons.mpr ⟨mgd 1336 (by decide +kernel) (by decide +kernel), List.forall_mem_cons.mpr ⟨mgd 1337 (by decide +kernel) (by decide +kernel), List.forall_mem_cons.mpr ⟨mgd 122 (by decide +kernel) (by decide +kernel), List.forall_mem_cons.mpr ⟨mgd 1338 (by decide +kernel) (by decide +kernel), fun _ h => absurd h List.not_mem_nil⟩⟩⟩⟩⟩
theorem vX9_compose_114 : ∀ w ∈ ([.methodLink RX9 114 yX1_addColumn, .instanceMethod yX1_addColumn, .selects yX1_addColumn.cls yX1_addColumn yX1_addColumn, .initialized yX1_addColumn.cls, .code yX1_addColumn cX1_addColumn 2 none] : List Cond), w ∈ lw_good := List.forall_mem_cons.mpr ⟨mgd 1445 (by decide +kernel) (by decide +kernel), List.forall_mem_cons.mpr ⟨mgd 1446 (by decide +kernel) (by decide +kernel), List.forall_mem_cons.mpr ⟨mgd 1447 (by decide +kernel) (by decide +kernel), List.forall_mem_cons.mpr ⟨mgd 122 (by decide +kernel) (by decide +kernel), List.forall_mem_cons.mpr ⟨mgd 1448 (by decide +kernel) (by decide +kernel), fun _ h => absurd h List.not_mem_nil⟩⟩⟩⟩⟩
theorem vX9_compose_117 : ∀ w ∈ ([.methodLink RX9 117 yX1_seal, .instanceMethod yX1_seal, .selects yX1_seal.cls yX1_seal yX1_seal, .initialized yX1_seal.cls, .code yX1_seal cX1_seal 3 none] : List Cond), w ∈ lw_good := List.forall_mem_cons.mpr ⟨mgd 1451 (by decide +kernel) (by decide +kernel), List.forall_mem_cons.mpr ⟨mgd 1346 (by decide +kernel) (by decide +kernel), List.forall_mem_cons.mpr ⟨mgd 1347 (by decide +kernel) (by decide +kernel), List.forall_mem_cons.mpr ⟨mgd 122 (by decide +kernel) (by decide +kernel), List.forall_mem_cons.mpr ⟨mgd 1348 (by decide +kernel) (by decide +kernel), fun _ h => absurd h List.not_mem_nil⟩⟩⟩⟩⟩
set_option maxRecDepth 100000 in
set_option maxHeartbeats 2000000 in
theorem c_wco (l : Launch) : ∀ (w : Nat) (o : Nat) (sn : Int32) (F : Nat → Nat × Nat) (j pk pl me : Nat) (a d : Nat → Nat) (V : Nat → List Int32) (cap : Nat → Nat) (M : List Nat) (d0 : Nat) (B0 : List Nat), Ct l yX9_compose cX9_compose 3 none 5 120 (sp_wco w o sn F j pk pl me a d V cap M d0 B0) := by
  intro w o sn F j pk pl me a d V cap M d0 B0
  refine Ct.of (fX9, nX9, aX9, iX9, lX9, [(111, 0, 3, 0, T_bbeg), (114, 0, 2, 0, T_bcol), (117, 0, 1, 0, T_bseal)], qX9, gX9, []) false tX9_compose (fun _ _ _ => none) (by decide) (by decide) kX9_compose ⟨_, _, rfl⟩ fX9_ok nX9_ok aX9_ok iX9_ok lX9_ok (fun p e R s m args below meth c Q D cy z r A C hR1 hR2 => List.forall_mem_cons.mpr ⟨cOK_use (fun _ _ _ _ _ _ _ _ h => let ⟨sp, h1, h2, h3⟩ := u_bbeg l _ _ _ _ _ _ _ _ h; ⟨sp, cOK_V C h1 vX9_compose_111 ⟨by decide, by decide, by decide +kernel⟩ ⟨by rw [hR1]; decide, by rw [hR2]; decide⟩ (k := 2) (T := TX1) (N := 3) rfl (by decide) h2, h3⟩), List.forall_mem_cons.mpr ⟨cOK_use (fun _ _ _ _ _ _ _ _ h => let ⟨sp, h1, h2, h3⟩ := u_bcol l _ _ _ _ _ _ _ _ h; ⟨sp, cOK_V C h1 vX9_compose_114 ⟨by decide, by decide, by decide +kernel⟩ ⟨by rw [hR1]; decide, by rw [hR2]; decide⟩ (k := 2) (T := TX1) (N := 3) rfl (by decide) h2, h3⟩), List.forall_mem_cons.mpr ⟨cOK_use (fun _ _ _ _ _ _ _ _ h => let ⟨sp, h1, h2, h3⟩ := u_bseal l _ _ _ _ _ _ _ _ h; ⟨sp, cOK_V C h1 vX9_compose_117 ⟨by decide, by decide, by decide +kernel⟩ ⟨by rw [hR1]; decide, by rw [hR2]; decide⟩ (k := 2) (T := TX1) (N := 3) rfl (by decide) h2, h3⟩), fun _ h => absurd h List.not_mem_nil⟩⟩⟩) qX9_ok gX9_ok rfl ?_ ?_
  · rintro _ S ⟨rfl, hp⟩
    refine ⟨Nat.le_of_ble_eq_true rfl, 300, ?_⟩
    show (0 = 0 ∧ (∃ (d_1 : Nat) (B_2 : List Nat), (By S o d_1 B_2) ∧ 0 + (addNC 3 (mN S d_1) 0) ≤ addNC (coA V sn).length (mN S d0) 0 ∧ 0 + (addNS 3 (mN S d_1) 0) ≤ addNS (coA V sn).length (mN S d0) 0 ∧ (∀ (S_3 : MM), (∃ d', App (clr S o) S_3 o d_1 d' [] [87, (1 : Int32), sn]) → (isO S_3 10 w ∧ (0 = 0 ∧ ((pa (mR S_3 1000 w) fun a_4 => (∃ (d_5 df_6 : Nat) (B_7 F_8 : List Nat), (By S_3 o d_5 B_7 ∧ By S_3 a_4 df_6 F_8 ∧ a_4 ≠ o ∧ df_6 ≠ d_5) ∧ 0 + (addNC 3 (mN S d_1) 0) + (addNC (vbs 4 (nI F_8.length) ++ rngV F_8 0 F_8.length).length (mN S_3 d_5) B_7.length) ≤ addNC (coA V sn).length (mN S d0) 0 ∧ 0 + (addNS 3 (mN S d_1) 0) + (addNS (vbs 4 (nI F_8.length) ++ rngV F_8 0 F_8.length).length (mN S_3 d_5) B_7.length) ≤ addNS (coA V sn).length (mN S d0) 0 ∧ (∀ (S_9 : MM), (∃ d', App S_3 S_9 o d_5 d' B_7 (vbs 4 (nI F_8.length) ++ rngV F_8 0 F_8.length)) → (isO S_9 10 w ∧ (0 = 0 ∧ ((pa (mR S_9 1001 w) fun a_10 => (∃ (d_11 df_12 : Nat) (B_13 F_14 : List Nat), (By S_9 o d_11 B_13 ∧ By S_9 a_10 df_12 F_14 ∧ a_10 ≠ o ∧ df_12 ≠ d_11) ∧ 0 + (addNC 3 (mN S d_1) 0) + (addNC (vbs 4 (nI F_8.length) ++ rngV F_8 0 F_8.length).length (mN S_3 d_5) B_7.length) + (addNC (vbs 4 (nI F_14.length) ++ rngV F_14 0 F_14.length).length (mN S_9 d_11) B_13.length) ≤ addNC (coA V sn).length (mN S d0) 0 ∧ 0 + (addNS 3 (mN S d_1) 0) + (addNS (vbs 4 (nI F_8.length) ++ rngV F_8 0 F_8.length).length (mN S_3 d_5) B_7.length) + (addNS (vbs 4 (nI F_14.length) ++ rngV F_14 0 F_14.length).length (mN S_9 d_11) B_13.length) ≤ addNS (coA V sn).length (mN S d0) 0 ∧ (∀ (S_15 : MM), (∃ d', App S_9 S_15 o d_11 d' B_13 (vbs 4 (nI F_14.length) ++ rngV F_14 0 F_14.length)) → (isO S_15 10 w ∧ (0 = 0 ∧ ((pa (mR S_15 1002 w) fun a_16 => (∃ (d_17 df_18 : Nat) (B_19 F_20 : List Nat), (By S_15 o d_17 B_19 ∧ By S_15 a_16 df_18 F_20 ∧ a_16 ≠ o ∧ df_18 ≠ d_17) ∧ 0 + (addNC 3 (mN S d_1) 0) + (addNC (vbs 4 (nI F_8.length) ++ rngV F_8 0 F_8.length).length (mN S_3 d_5) B_7.length) + (addNC (vbs 4 (nI F_14.length) ++ rngV F_14 0 F_14.length).length (mN S_9 d_11) B_13.length) + (addNC (vbs 4 (nI F_20.length) ++ rngV F_20 0 F_20.length).length (mN S_15 d_17) B_19.length) ≤ addNC (coA V sn).length (mN S d0) 0 ∧ 0 + (addNS 3 (mN S d_1) 0) + (addNS (vbs 4 (nI F_8.length) ++ rngV F_8 0 F_8.length).length (mN S_3 d_5) B_7.length) + (addNS (vbs 4 (nI F_14.length) ++ rngV F_14 0 F_14.length).length (mN S_9 d_11) B_13.length) + (addNS (vbs 4 (nI F_20.length) ++ rngV F_20 0 F_20.length).length (mN S_15 d_17) B_19.length) ≤ addNS (coA V sn).length (mN S d0) 0 ∧ (∀ (S_21 : MM), (∃ d', App S_15 S_21 o d_17 d' B_19 (vbs 4 (nI F_20.length) ++ rngV F_20 0 F_20.length)) → (isO S_21 10 w ∧ (0 = 0 ∧ ((pa (mR S_21 1003 w) fun a_22 => (∃ (d_23 df_24 : Nat) (B_25 F_26 : List Nat), (By S_21 o d_23 B_25 ∧ By S_21 a_22 df_24 F_26 ∧ a_22 ≠ o ∧ df_24 ≠ d_23) ∧ 0 + (addNC 3 (mN S d_1) 0) + (addNC (vbs 4 (nI F_8.length) ++ rngV F_8 0 F_8.length).length (mN S_3 d_5) B_7.length) + (addNC (vbs 4 (nI F_14.length) ++ rngV F_14 0 F_14.length).length (mN S_9 d_11) B_13.length) + (addNC (vbs 4 (nI F_20.length) ++ rngV F_20 0 F_20.length).length (mN S_15 d_17) B_19.length) + (addNC (vbs 4 (nI F_26.length) ++ rngV F_26 0 F_26.length).length (mN S_21 d_23) B_25.length) ≤ addNC (coA V sn).length (mN S d0) 0 ∧ 0 + (addNS 3 (mN S d_1) 0) + (addNS (vbs 4 (nI F_8.length) ++ rngV F_8 0 F_8.length).length (mN S_3 d_5) B_7.length) + (addNS (vbs 4 (nI F_14.length) ++ rngV F_14 0 F_14.length).length (mN S_9 d_11) B_13.length) + (addNS (vbs 4 (nI F_20.length) ++ rngV F_20 0 F_20.length).length (mN S_15 d_17) B_19.length) + (addNS (vbs 4 (nI F_26.length) ++ rngV F_26 0 F_26.length).length (mN S_21 d_23) B_25.length) ≤ addNS (coA V sn).length (mN S d0) 0 ∧ (∀ (S_27 : MM), (∃ d', App S_21 S_27 o d_23 d' B_25 (vbs 4 (nI F_26.length) ++ rngV F_26 0 F_26.length)) → (isO S_27 10 w ∧ (0 = 0 ∧ ((pa (mR S_27 1004 w) fun a_28 => (∃ (d_29 df_30 : Nat) (B_31 F_32 : List Nat), (By S_27 o d_29 B_31 ∧ By S_27 a_28 df_30 F_32 ∧ a_28 ≠ o ∧ df_30 ≠ d_29) ∧ 0 + (addNC 3 (mN S d_1) 0) + (addNC (vbs 4 (nI F_8.length) ++ rngV F_8 0 F_8.length).length (mN S_3 d_5) B_7.length) + (addNC (vbs 4 (nI F_14.length) ++ rngV F_14 0 F_14.length).length (mN S_9 d_11) B_13.length) + (addNC (vbs 4 (nI F_20.length) ++ rngV F_20 0 F_20.length).length (mN S_15 d_17) B_19.length) + (addNC (vbs 4 (nI F_26.length) ++ rngV F_26 0 F_26.length).length (mN S_21 d_23) B_25.length) + (addNC (vbs 4 (nI F_32.length) ++ rngV F_32 0 F_32.length).length (mN S_27 d_29) B_31.length) ≤ addNC (coA V sn).length (mN S d0) 0 ∧ 0 + (addNS 3 (mN S d_1) 0) + (addNS (vbs 4 (nI F_8.length) ++ rngV F_8 0 F_8.length).length (mN S_3 d_5) B_7.length) + (addNS (vbs 4 (nI F_14.length) ++ rngV F_14 0 F_14.length).length (mN S_9 d_11) B_13.length) + (addNS (vbs 4 (nI F_20.length) ++ rngV F_20 0 F_20.length).length (mN S_15 d_17) B_19.length) + (addNS (vbs 4 (nI F_26.length) ++ rngV F_26 0 F_26.length).length (mN S_21 d_23) B_25.length) + (addNS (vbs 4 (nI F_32.length) ++ rngV F_32 0 F_32.length).length (mN S_27 d_29) B_31.length) ≤ addNS (coA V sn).length (mN S d0) 0 ∧ (∀ (S_33 : MM), (∃ d', App S_27 S_33 o d_29 d' B_31 (vbs 4 (nI F_32.length) ++ rngV F_32 0 F_32.length)) → (0 = 0 ∧ (∃ (d_34 : Nat) (B_35 : List Nat), (By S_33 o d_34 B_35) ∧ 0 + (addNC 3 (mN S d_1) 0) + (addNC (vbs 4 (nI F_8.length) ++ rngV F_8 0 F_8.length).length (mN S_3 d_5) B_7.length) + (addNC (vbs 4 (nI F_14.length) ++ rngV F_14 0 F_14.length).length (mN S_9 d_11) B_13.length) + (addNC (vbs 4 (nI F_20.length) ++ rngV F_20 0 F_20.length).length (mN S_15 d_17) B_19.length) + (addNC (vbs 4 (nI F_26.length) ++ rngV F_26 0 F_26.length).length (mN S_21 d_23) B_25.length) + (addNC (vbs 4 (nI F_32.length) ++ rngV F_32 0 F_32.length).length (mN S_27 d_29) B_31.length) + (addNC 4 (mN S_33 d_34) B_35.length) ≤ addNC (coA V sn).length (mN S d0) 0 ∧ 0 + (addNS 3 (mN S d_1) 0) + (addNS (vbs 4 (nI F_8.length) ++ rngV F_8 0 F_8.length).length (mN S_3 d_5) B_7.length) + (addNS (vbs 4 (nI F_14.length) ++ rngV F_14 0 F_14.length).length (mN S_9 d_11) B_13.length) + (addNS (vbs 4 (nI F_20.length) ++ rngV F_20 0 F_20.length).length (mN S_15 d_17) B_19.length) + (addNS (vbs 4 (nI F_26.length) ++ rngV F_26 0 F_26.length).length (mN S_21 d_23) B_25.length) + (addNS (vbs 4 (nI F_32.length) ++ rngV F_32 0 F_32.length).length (mN S_27 d_29) B_31.length) + (addNS 4 (mN S_33 d_34) B_35.length) ≤ addNS (coA V sn).length (mN S d0) 0 ∧ (∀ (S_36 : MM), (∃ d', App S_33 S_36 o d_34 d' B_35 (sealV (crcOf B_35) 4)) → (([] : List MV) = [] ∧ mret none (sp_wco w o sn F j pk pl me a d V cap M d0 B0) [.inr (.inr (some w)), .inr (.inr (some o)), .inl sn] S none S_36 (0 + (addNC 3 (mN S d_1) 0) + (addNC (vbs 4 (nI F_8.length) ++ rngV F_8 0 F_8.length).length (mN S_3 d_5) B_7.length) + (addNC (vbs 4 (nI F_14.length) ++ rngV F_14 0 F_14.length).length (mN S_9 d_11) B_13.length) + (addNC (vbs 4 (nI F_20.length) ++ rngV F_20 0 F_20.length).length (mN S_15 d_17) B_19.length) + (addNC (vbs 4 (nI F_26.length) ++ rngV F_26 0 F_26.length).length (mN S_21 d_23) B_25.length) + (addNC (vbs 4 (nI F_32.length) ++ rngV F_32 0 F_32.length).length (mN S_27 d_29) B_31.length) + (addNC 4 (mN S_33 d_34) B_35.length)) (0 + (addNS 3 (mN S d_1) 0) + (addNS (vbs 4 (nI F_8.length) ++ rngV F_8 0 F_8.length).length (mN S_3 d_5) B_7.length) + (addNS (vbs 4 (nI F_14.length) ++ rngV F_14 0 F_14.length).length (mN S_9 d_11) B_13.length) + (addNS (vbs 4 (nI F_20.length) ++ rngV F_20 0 F_20.length).length (mN S_15 d_17) B_19.length) + (addNS (vbs 4 (nI F_26.length) ++ rngV F_26 0 F_26.length).length (mN S_21 d_23) B_25.length) + (addNS (vbs 4 (nI F_32.length) ++ rngV F_32 0 F_32.length).length (mN S_27 d_29) B_31.length) + (addNS 4 (mN S_33 d_34) B_35.length)))))))))))))))))))))))))))))))))))))))
    have hl : ∀ n, n ≤ 5 → (coV V sn n).length ≤ (coA V sn).length := fun n hn => by
      rw [coA_len]
      have := coV_le (V := V) (sn := sn) hn
      omega
    have step : ∀ n, n < 5 → ∀ (S1 : MM) (d1 : Nat), App (clr S o) S1 o d0 d1 [] (coV V sn n) → (addNC (coV V sn n).length (mN S d0) 0 + addNC (colV (bPuts [] (V n))).length (mN S1 d1) (bPuts [] (coV V sn n)).length = addNC (coV V sn (n + 1)).length (mN S d0) 0 ∧ addNS (coV V sn n).length (mN S d0) 0 + addNS (colV (bPuts [] (V n))).length (mN S1 d1) (bPuts [] (coV V sn n)).length = addNS (coV V sn (n + 1)).length (mN S d0) 0) ∧ (addNC (coV V sn (n + 1)).length (mN S d0) 0 ≤ addNC (coA V sn).length (mN S d0) 0 ∧ addNS (coV V sn (n + 1)).length (mN S d0) 0 ≤ addNS (coA V sn).length (mN S d0) 0) := fun n hn S1 d1 ha => by
      refine ⟨⟨?_, ?_⟩, addNC_mono _ _ (hl _ (by omega)), addNS_mono _ _ (hl _ (by omega))⟩
      · rw [coV, List.length_append]; exact ha.costC _
      · rw [coV, List.length_append]; exact ha.costS _
    have hB := hp.2.1
    have e0 : (coV V sn 0).length = 3 := rfl
    refine ⟨rfl, d0, B0, hB, ?_, ?_, fun S1 hS1 => ?_⟩
    · rw [Nat.zero_add]; exact addNC_mono _ _ (hl 0 (by decide))
    · rw [Nat.zero_add]; exact addNS_mono _ _ (hl 0 (by decide))
    obtain ⟨d1, a1⟩ := hS1
    have a1 : App (clr S o) S1 o d0 d1 [] (coV V sn 0) := a1
    obtain ⟨⟨c1, z1⟩, b1, y1⟩ := step 0 (by decide) S1 d1 a1
    rw [e0] at c1 z1
    obtain ⟨w1, r1, x1, u1, v1⟩ := hp.at a1 (n := 0) (by decide)
    refine ⟨w1, rfl, pa_i r1 ⟨d1, d 0, _, _, ⟨a1.1, x1, u1, v1⟩, ?_, ?_, fun S2 hS2 => ?_⟩⟩
    · show 0 + addNC 3 (mN S d0) 0 + addNC (colV (bPuts [] (V 0))).length _ _ ≤ _
      omega
    · show 0 + addNS 3 (mN S d0) 0 + addNS (colV (bPuts [] (V 0))).length _ _ ≤ _
      omega
    obtain ⟨d2, a2⟩ := hS2
    have a2 : App (clr S o) S2 o d0 d2 [] (coV V sn 1) := App.app (by decide) a1 a2
    obtain ⟨⟨c2, z2⟩, b2, y2⟩ := step 1 (by decide) S2 d2 a2
    obtain ⟨w2, r2, x2, u2, v2⟩ := hp.at a2 (n := 1) (by decide)
    have eC1 : 0 + addNC 3 (mN S d0) 0 + addNC (vbs 4 (nI (bPuts [] (V 0)).length) ++ rngV (bPuts [] (V 0)) 0 (bPuts [] (V 0)).length).length (mN S1 d1) (bPuts [] (coV V sn 0)).length = addNC (coV V sn 1).length (mN S d0) 0 := by rw [Nat.zero_add]; exact c1
    have eS1 : 0 + addNS 3 (mN S d0) 0 + addNS (vbs 4 (nI (bPuts [] (V 0)).length) ++ rngV (bPuts [] (V 0)) 0 (bPuts [] (V 0)).length).length (mN S1 d1) (bPuts [] (coV V sn 0)).length = addNS (coV V sn 1).length (mN S d0) 0 := by rw [Nat.zero_add]; exact z1
    rw [eC1, eS1]
    refine ⟨w2, rfl, pa_i r2 ⟨d2, d 1, _, _, ⟨a2.1, x2, u2, v2⟩, (show _ + addNC (colV (bPuts [] (V 1))).length _ _ ≤ _ by omega), (show _ + addNS (colV (bPuts [] (V 1))).length _ _ ≤ _ by omega), fun S3 hS3 => ?_⟩⟩
    obtain ⟨d3, a3⟩ := hS3
    have a3 : App (clr S o) S3 o d0 d3 [] (coV V sn 2) := App.app (by decide) a2 a3
    obtain ⟨⟨c3, z3⟩, b3, y3⟩ := step 2 (by decide) S3 d3 a3
    obtain ⟨w3, r3, x3, u3, v3⟩ := hp.at a3 (n := 2) (by decide)
    have eC2 : addNC (coV V sn 1).length (mN S d0) 0 + addNC (vbs 4 (nI (bPuts [] (V 1)).length) ++ rngV (bPuts [] (V 1)) 0 (bPuts [] (V 1)).length).length (mN S2 d2) (bPuts [] (coV V sn 1)).length = addNC (coV V sn 2).length (mN S d0) 0 := c2
    have eS2 : addNS (coV V sn 1).length (mN S d0) 0 + addNS (vbs 4 (nI (bPuts [] (V 1)).length) ++ rngV (bPuts [] (V 1)) 0 (bPuts [] (V 1)).length).length (mN S2 d2) (bPuts [] (coV V sn 1)).length = addNS (coV V sn 2).length (mN S d0) 0 := z2
    rw [eC2, eS2]
    refine ⟨w3, rfl, pa_i r3 ⟨d3, d 2, _, _, ⟨a3.1, x3, u3, v3⟩, (show _ + addNC (colV (bPuts [] (V 2))).length _ _ ≤ _ by omega), (show _ + addNS (colV (bPuts [] (V 2))).length _ _ ≤ _ by omega), fun S4 hS4 => ?_⟩⟩
    obtain ⟨d4, a4⟩ := hS4
    have a4 : App (clr S o) S4 o d0 d4 [] (coV V sn 3) := App.app (by decide) a3 a4
    obtain ⟨⟨c4, z4⟩, b4, y4⟩ := step 3 (by decide) S4 d4 a4
    obtain ⟨w4, r4, x4, u4, v4⟩ := hp.at a4 (n := 3) (by decide)
    have eC3 : addNC (coV V sn 2).length (mN S d0) 0 + addNC (vbs 4 (nI (bPuts [] (V 2)).length) ++ rngV (bPuts [] (V 2)) 0 (bPuts [] (V 2)).length).length (mN S3 d3) (bPuts [] (coV V sn 2)).length = addNC (coV V sn 3).length (mN S d0) 0 := c3
    have eS3 : addNS (coV V sn 2).length (mN S d0) 0 + addNS (vbs 4 (nI (bPuts [] (V 2)).length) ++ rngV (bPuts [] (V 2)) 0 (bPuts [] (V 2)).length).length (mN S3 d3) (bPuts [] (coV V sn 2)).length = addNS (coV V sn 3).length (mN S d0) 0 := z3
    rw [eC3, eS3]
    refine ⟨w4, rfl, pa_i r4 ⟨d4, d 3, _, _, ⟨a4.1, x4, u4, v4⟩, (show _ + addNC (colV (bPuts [] (V 3))).length _ _ ≤ _ by omega), (show _ + addNS (colV (bPuts [] (V 3))).length _ _ ≤ _ by omega), fun S5 hS5 => ?_⟩⟩
    obtain ⟨d5, a5⟩ := hS5
    have a5 : App (clr S o) S5 o d0 d5 [] (coV V sn 4) := App.app (by decide) a4 a5
    obtain ⟨⟨c5, z5⟩, b5, y5⟩ := step 4 (by decide) S5 d5 a5
    obtain ⟨w5, r5, x5, u5, v5⟩ := hp.at a5 (n := 4) (by decide)
    have eC4 : addNC (coV V sn 3).length (mN S d0) 0 + addNC (vbs 4 (nI (bPuts [] (V 3)).length) ++ rngV (bPuts [] (V 3)) 0 (bPuts [] (V 3)).length).length (mN S4 d4) (bPuts [] (coV V sn 3)).length = addNC (coV V sn 4).length (mN S d0) 0 := c4
    have eS4 : addNS (coV V sn 3).length (mN S d0) 0 + addNS (vbs 4 (nI (bPuts [] (V 3)).length) ++ rngV (bPuts [] (V 3)) 0 (bPuts [] (V 3)).length).length (mN S4 d4) (bPuts [] (coV V sn 3)).length = addNS (coV V sn 4).length (mN S d0) 0 := z4
    rw [eC4, eS4]
    refine ⟨w5, rfl, pa_i r5 ⟨d5, d 4, _, _, ⟨a5.1, x5, u5, v5⟩, (show _ + addNC (colV (bPuts [] (V 4))).length _ _ ≤ _ by omega), (show _ + addNS (colV (bPuts [] (V 4))).length _ _ ≤ _ by omega), fun S6 hS6 => ?_⟩⟩
    obtain ⟨d6, a6⟩ := hS6
    have a6 : App (clr S o) S6 o d0 d6 [] (coV V sn 5) := App.app (by decide) a5 a6
    have eC5 : addNC (coV V sn 4).length (mN S d0) 0 + addNC (vbs 4 (nI (bPuts [] (V 4)).length) ++ rngV (bPuts [] (V 4)) 0 (bPuts [] (V 4)).length).length (mN S5 d5) (bPuts [] (coV V sn 4)).length = addNC (coV V sn 5).length (mN S d0) 0 := c5
    have eS5 : addNS (coV V sn 4).length (mN S d0) 0 + addNS (vbs 4 (nI (bPuts [] (V 4)).length) ++ rngV (bPuts [] (V 4)) 0 (bPuts [] (V 4)).length).length (mN S5 d5) (bPuts [] (coV V sn 4)).length = addNS (coV V sn 5).length (mN S d0) 0 := z5
    rw [eC5, eS5]
    have c6 : addNC (coV V sn 5).length (mN S d0) 0 + addNC 4 (mN S6 d6) (bPuts [] (coV V sn 5)).length = addNC (coA V sn).length (mN S d0) 0 := by rw [coA_len]; exact a6.costC 4
    have z6 : addNS (coV V sn 5).length (mN S d0) 0 + addNS 4 (mN S6 d6) (bPuts [] (coV V sn 5)).length = addNS (coA V sn).length (mN S d0) 0 := by rw [coA_len]; exact a6.costS 4
    refine ⟨rfl, d6, _, a6.1, Nat.le_of_eq c6, Nat.le_of_eq z6, fun S7 hS7 => ?_⟩
    obtain ⟨d7, a7⟩ := hS7
    exact ⟨rfl, trivial, ⟨rfl, d7, App.app (by decide) a6 a7⟩, Nat.le_of_eq c6, Nat.le_of_eq z6⟩
  · exact fun _ _ _ _ _ h => by cases h
theorem u_wco (l : Launch) : Us l yX9_compose cX9_compose 3 none 5 120 10 T_wco := by
  intro Rc Rs av S cs sl K Kx h
  unfold T_wco at h
  split at h
  · rename_i w_o o_o sn
    obtain ⟨w, rfl, h_1⟩ := pa_of h
    obtain ⟨o, rfl, h_2⟩ := pa_of h_1
    obtain ⟨F, j, pk, pl, me, a, d, V, cap, M, d0, B0, hp, hc, hs, hk⟩ := h_2
    refine ⟨(sp_wco w o sn F j pk pl me a d V cap M d0 B0), c_wco l w o sn F j pk pl me a d V cap M d0 B0, fun _ _ h9 => ⟨_, _, h9.1, h9.2.1.2.2.2.2.1.1⟩, ⟨rfl, hp⟩, hc, hs, fun S' h8 => by
      obtain ⟨-, h8⟩ := h8
      exact hk _ h8, fun _ _ q => q.elim⟩
  · exact h.elim
