/-! ===== Graph: strike, rankByText, countCritical; Packer.<init> ===== -/
/-- a node y is struck by e, the finger at it -/
def skS (S : MM) (g e y i : Nat) : MM := sI (sI (sI (sR (fgS S g y (i + 1)) 507 e (some y)) 513 y 2) 609 g (mI S 609 g - 1)) 611 g (nI i)
def skS2 (S : MM) (g e y i : Nat) : MM := if mI S 514 y = -1 then sI (sI (skS S g e y i) 514 y (mI S 502 e)) 605 g (mI S 605 g - 1) else skS S g e y i
def skP (S S' : MM) (g e i : Nat) (O : List Nat) : Prop := ∃ A y B, O = A ++ y :: B ∧ mI S 513 y = 1 ∧ seenC S A = i ∧ S' = skS2 S g e y i
theorem skS_I {S : MM} {g e y i j b : Nat} (h1 : j ≠ 513) (h2 : j ≠ 609) (h3 : j ≠ 611) : mI (skS S g e y i) j b = mI S j b := by
  rw [skS, mI_sI, if_neg (fun z => h3 z.1), mI_sI, if_neg (fun z => h2 z.1), mI_sI, if_neg (fun z => h1 z.1), mI_sR, fgS_I h3]
def T_gst : TR := fun Rc Rs av S cs sl K _Kx => match av with
  | [.inr (.inr g_o), .inr (.inr e_o)] => pa g_o fun g => (pa e_o fun e => (∃ (rt i : Nat) (O A B : List Nat), (isO S 6 g ∧ isO S 5 e ∧ mI S 506 e = nI i ∧ mR S 600 g = some rt ∧ ChP S rt O ∧ O.length ≤ 100000 ∧ O = A ++ B ∧ mR S 610 g = some (A.getLastD rt) ∧ mI S 611 g = nI (seenC S A) ∧ i < seenC S O ∧ g ≠ e) ∧ cs ≤ Rc ∧ sl ≤ Rs ∧ (∀ (S' : MM), (skP S S' g e i O) → K none S' cs sl)))
  | _ => False
def sp_gst (g : Nat) (e : Nat) (rt i : Nat) (O A B : List Nat) : Sp := (fun av S => av = [.inr (.inr (some g)), .inr (.inr (some e))] ∧ (isO S 6 g ∧ isO S 5 e ∧ mI S 506 e = nI i ∧ mR S 600 g = some rt ∧ ChP S rt O ∧ O.length ≤ 100000 ∧ O = A ++ B ∧ mR S 610 g = some (A.getLastD rt) ∧ mI S 611 g = nI (seenC S A) ∧ i < seenC S O ∧ g ≠ e), fun _ S => 0, fun _ S => 0, fun _ S rv S' => rv = none ∧ (skP S S' g e i O), fun _ _ _ _ => False)
def tX5_strike : CD := [(0, .aload_n 0), (1, .aload_n 1), (2, .getfield 175), (5, .invokevirtual 178), (8, .astore_n 2), (9, .aload_n 1), (10, .aload_n 2), (11, .putfield 141), (14, .aload_n 2), (15, .iconst 2), (16, .putfield 138), (19, .aload_n 0), (20, .dup), (21, .getfield 56), (24, .iconst 1), (25, .isub), (26, .putfield 56), (29, .aload_n 0), (30, .dup), (31, .getfield 62), (34, .iconst 1), (35, .isub), (36, .putfield 62), (39, .aload_n 2), (40, .invokevirtual 182), (43, .ifCond .eq 21), (46, .aload_n 2), (47, .aload_n 1), (48, .getfield 185), (51, .putfield 187), (54, .aload_n 0), (55, .dup), (56, .getfield 43), (59, .iconst 1), (60, .isub), (61, .putfield 43), (64, .return_)]
set_option maxRecDepth 100000 in
theorem kX5_strike : chk cX5_strike tX5_strike = true := by decide +kernel
theorem vX5_strike_178 : ∀ w ∈ ([.methodLink RX5 178 yX5_shownNode, .instanceMethod yX5_shownNode, .selects yX5_shownNode.cls yX5_shownNode yX5_shownNode, .initialized yX5_shownNode.cls, .code yX5_shownNode cX5_shownNode 3 (some (.object "WeaveText$Event"))] : List Cond), w ∈ lw_good := List.forall_mem_cons.mpr ⟨mgd 918 (by decide +kernel) (by decide +kernel), List.forall_mem_cons.mpr ⟨mgd 920 (by decide +kernel) (by decide +kernel), List.forall_mem_cons.mpr ⟨mgd 7 (by decide +kernel) (by decide +kernel), List.forall_mem_cons.mpr ⟨mgd 125 (by decide +kernel) (by decide +kernel), List.forall_mem_cons.mpr ⟨mgd 921 (by decide +kernel) (by decide +kernel), fun _ h => absurd h List.not_mem_nil⟩⟩⟩⟩⟩
theorem vX5_strike_182 : ∀ w ∈ ([.methodLink RX5 182 yX4_isVisible, .instanceMethod yX4_isVisible, .selects yX4_isVisible.cls yX4_isVisible yX4_isVisible, .initialized yX4_isVisible.cls, .code yX4_isVisible cX4_isVisible 1 (some .boolean)] : List Cond), w ∈ lw_good := List.forall_mem_cons.mpr ⟨mgd 944 (by decide +kernel) (by decide +kernel), List.forall_mem_cons.mpr ⟨mgd 945 (by decide +kernel) (by decide +kernel), List.forall_mem_cons.mpr ⟨mgd 946 (by decide +kernel) (by decide +kernel), List.forall_mem_cons.mpr ⟨mgd 126 (by decide +kernel) (by decide +kernel), List.forall_mem_cons.mpr ⟨mgd 947 (by decide +kernel) (by decide +kernel), fun _ h => absurd h List.not_mem_nil⟩⟩⟩⟩⟩
set_option maxRecDepth 100000 in
set_option maxHeartbeats 2000000 in
theorem c_gst (l : Launch) : ∀ (g : Nat) (e : Nat) (rt i : Nat) (O A B : List Nat), Ct l yX5_strike cX5_strike 3 none 1 22 (sp_gst g e rt i O A B) := by
  intro g e rt i O A B
  refine Ct.of (fX5, nX5, aX5, iX5, lX5, [(178, 0, 2, 3, T_gsn), (182, 0, 1, 1, T_vis)], qX5, gX5, []) false tX5_strike (fun _ _ _ => none) (by decide) (by decide) kX5_strike ⟨_, _, rfl⟩ fX5_ok nX5_ok aX5_ok iX5_ok lX5_ok (fun p e R s m args below meth c Q D cy z r A C hR1 hR2 => List.forall_mem_cons.mpr ⟨cOK_use (fun _ _ _ _ _ _ _ _ h => let ⟨sp, h1, h2, h3⟩ := u_gsn l _ _ _ _ _ _ _ _ h; ⟨sp, cOK_V C h1 vX5_strike_178 ⟨by decide, by decide, by decide +kernel⟩ ⟨by rw [hR1]; decide, by rw [hR2]; decide⟩ (k := 6) (T := TX5) (N := 12) rfl (by decide) h2, h3⟩), List.forall_mem_cons.mpr ⟨cOK_use (fun _ _ _ _ _ _ _ _ h => let ⟨sp, h1, h2, h3⟩ := u_vis l _ _ _ _ _ _ _ _ h; ⟨sp, cOK_V C h1 vX5_strike_182 ⟨by decide, by decide, by decide +kernel⟩ ⟨by rw [hR1]; decide, by rw [hR2]; decide⟩ (k := 5) (T := TX4) (N := 16) rfl (by decide) h2, h3⟩), fun _ h => absurd h List.not_mem_nil⟩⟩) qX5_ok gX5_ok rfl ?_ ?_
  · rintro _ S ⟨rfl, hp⟩
    refine ⟨Nat.le_of_ble_eq_true rfl, 300, ?_⟩
    show (isO S 5 e ∧ (0 = 0 ∧ (∃ (i_1 : Nat), mI S 506 e = nI i_1 ∧ (∃ (rt_2 f_3 : Nat) (O_4 A_5 B_6 : List Nat), (isO S 6 g ∧ mR S 600 g = some rt_2 ∧ ChP S rt_2 O_4 ∧ O_4.length ≤ 100000 ∧ O_4 = A_5 ++ B_6 ∧ mR S 610 g = some (A_5.getLastD rt_2) ∧ mI S 611 g = nI (seenC S A_5) ∧ i_1 < seenC S O_4) ∧ 0 ≤ 0 ∧ 0 ≤ 0 ∧ (∀ (x_8 : Option Nat) (S_7 : MM), (ndP S S_7 g i_1 O_4 x_8) → (True ∧ (isO S_7 5 e ∧ (True ∧ (pa x_8 fun a_9 => isO (sR S_7 507 e x_8) 5 a_9 ∧ (isO (sI (sR S_7 507 e x_8) 513 a_9 (2 : Int32)) 6 g ∧ (True ∧ (isO (sI (sR S_7 507 e x_8) 513 a_9 (2 : Int32)) 6 g ∧ (isO (sI (sI (sR S_7 507 e x_8) 513 a_9 (2 : Int32)) 609 g ((mI (sI (sR S_7 507 e x_8) 513 a_9 (2 : Int32)) 609 g) - (1 : Int32))) 6 g ∧ (True ∧ (isO (sI (sI (sR S_7 507 e x_8) 513 a_9 (2 : Int32)) 609 g ((mI (sI (sR S_7 507 e x_8) 513 a_9 (2 : Int32)) 609 g) - (1 : Int32))) 6 g ∧ (0 = 0 ∧ ((pa x_8 fun a_10 => ((isO (sI (sI (sI (sR S_7 507 e x_8) 513 a_9 (2 : Int32)) 609 g ((mI (sI (sR S_7 507 e x_8) 513 a_9 (2 : Int32)) 609 g) - (1 : Int32))) 611 g ((mI (sI (sI (sR S_7 507 e x_8) 513 a_9 (2 : Int32)) 609 g ((mI (sI (sR S_7 507 e x_8) 513 a_9 (2 : Int32)) 609 g) - (1 : Int32))) 611 g) - (1 : Int32))) 5 a_10) ∧ 0 ≤ 0 ∧ 0 ≤ 0 ∧ ((((if mI (sI (sI (sI (sR S_7 507 e x_8) 513 a_9 (2 : Int32)) 609 g ((mI (sI (sR S_7 507 e x_8) 513 a_9 (2 : Int32)) 609 g) - (1 : Int32))) 611 g ((mI (sI (sI (sR S_7 507 e x_8) 513 a_9 (2 : Int32)) 609 g ((mI (sI (sR S_7 507 e x_8) 513 a_9 (2 : Int32)) 609 g) - (1 : Int32))) 611 g) - (1 : Int32))) 514 a_10 = -1 then 1 else 0) = 0 → (([] : List MV) = [] ∧ mret none (sp_gst g e rt i O A B) [.inr (.inr (some g)), .inr (.inr (some e))] S none (sI (sI (sI (sR S_7 507 e x_8) 513 a_9 (2 : Int32)) 609 g ((mI (sI (sR S_7 507 e x_8) 513 a_9 (2 : Int32)) 609 g) - (1 : Int32))) 611 g ((mI (sI (sI (sR S_7 507 e x_8) 513 a_9 (2 : Int32)) 609 g ((mI (sI (sR S_7 507 e x_8) 513 a_9 (2 : Int32)) 609 g) - (1 : Int32))) 611 g) - (1 : Int32))) 0 0)) ∧ (¬ (if mI (sI (sI (sI (sR S_7 507 e x_8) 513 a_9 (2 : Int32)) 609 g ((mI (sI (sR S_7 507 e x_8) 513 a_9 (2 : Int32)) 609 g) - (1 : Int32))) 611 g ((mI (sI (sI (sR S_7 507 e x_8) 513 a_9 (2 : Int32)) 609 g ((mI (sI (sR S_7 507 e x_8) 513 a_9 (2 : Int32)) 609 g) - (1 : Int32))) 611 g) - (1 : Int32))) 514 a_10 = -1 then 1 else 0) = 0 → (isO (sI (sI (sI (sR S_7 507 e x_8) 513 a_9 (2 : Int32)) 609 g ((mI (sI (sR S_7 507 e x_8) 513 a_9 (2 : Int32)) 609 g) - (1 : Int32))) 611 g ((mI (sI (sI (sR S_7 507 e x_8) 513 a_9 (2 : Int32)) 609 g ((mI (sI (sR S_7 507 e x_8) 513 a_9 (2 : Int32)) 609 g) - (1 : Int32))) 611 g) - (1 : Int32))) 5 e ∧ (True ∧ (pa x_8 fun a_12 => isO (sI (sI (sI (sR S_7 507 e x_8) 513 a_9 (2 : Int32)) 609 g ((mI (sI (sR S_7 507 e x_8) 513 a_9 (2 : Int32)) 609 g) - (1 : Int32))) 611 g ((mI (sI (sI (sR S_7 507 e x_8) 513 a_9 (2 : Int32)) 609 g ((mI (sI (sR S_7 507 e x_8) 513 a_9 (2 : Int32)) 609 g) - (1 : Int32))) 611 g) - (1 : Int32))) 5 a_12 ∧ (isO (sI (sI (sI (sI (sR S_7 507 e x_8) 513 a_9 (2 : Int32)) 609 g ((mI (sI (sR S_7 507 e x_8) 513 a_9 (2 : Int32)) 609 g) - (1 : Int32))) 611 g ((mI (sI (sI (sR S_7 507 e x_8) 513 a_9 (2 : Int32)) 609 g ((mI (sI (sR S_7 507 e x_8) 513 a_9 (2 : Int32)) 609 g) - (1 : Int32))) 611 g) - (1 : Int32))) 514 a_12 (mI (sI (sI (sI (sR S_7 507 e x_8) 513 a_9 (2 : Int32)) 609 g ((mI (sI (sR S_7 507 e x_8) 513 a_9 (2 : Int32)) 609 g) - (1 : Int32))) 611 g ((mI (sI (sI (sR S_7 507 e x_8) 513 a_9 (2 : Int32)) 609 g ((mI (sI (sR S_7 507 e x_8) 513 a_9 (2 : Int32)) 609 g) - (1 : Int32))) 611 g) - (1 : Int32))) 502 e)) 6 g ∧ (True ∧ (isO (sI (sI (sI (sI (sR S_7 507 e x_8) 513 a_9 (2 : Int32)) 609 g ((mI (sI (sR S_7 507 e x_8) 513 a_9 (2 : Int32)) 609 g) - (1 : Int32))) 611 g ((mI (sI (sI (sR S_7 507 e x_8) 513 a_9 (2 : Int32)) 609 g ((mI (sI (sR S_7 507 e x_8) 513 a_9 (2 : Int32)) 609 g) - (1 : Int32))) 611 g) - (1 : Int32))) 514 a_12 (mI (sI (sI (sI (sR S_7 507 e x_8) 513 a_9 (2 : Int32)) 609 g ((mI (sI (sR S_7 507 e x_8) 513 a_9 (2 : Int32)) 609 g) - (1 : Int32))) 611 g ((mI (sI (sI (sR S_7 507 e x_8) 513 a_9 (2 : Int32)) 609 g ((mI (sI (sR S_7 507 e x_8) 513 a_9 (2 : Int32)) 609 g) - (1 : Int32))) 611 g) - (1 : Int32))) 502 e)) 6 g ∧ (([] : List MV) = [] ∧ mret none (sp_gst g e rt i O A B) [.inr (.inr (some g)), .inr (.inr (some e))] S none (sI (sI (sI (sI (sI (sR S_7 507 e x_8) 513 a_9 (2 : Int32)) 609 g ((mI (sI (sR S_7 507 e x_8) 513 a_9 (2 : Int32)) 609 g) - (1 : Int32))) 611 g ((mI (sI (sI (sR S_7 507 e x_8) 513 a_9 (2 : Int32)) 609 g ((mI (sI (sR S_7 507 e x_8) 513 a_9 (2 : Int32)) 609 g) - (1 : Int32))) 611 g) - (1 : Int32))) 514 a_12 (mI (sI (sI (sI (sR S_7 507 e x_8) 513 a_9 (2 : Int32)) 609 g ((mI (sI (sR S_7 507 e x_8) 513 a_9 (2 : Int32)) 609 g) - (1 : Int32))) 611 g ((mI (sI (sI (sR S_7 507 e x_8) 513 a_9 (2 : Int32)) 609 g ((mI (sI (sR S_7 507 e x_8) 513 a_9 (2 : Int32)) 609 g) - (1 : Int32))) 611 g) - (1 : Int32))) 502 e)) 605 g ((mI (sI (sI (sI (sI (sR S_7 507 e x_8) 513 a_9 (2 : Int32)) 609 g ((mI (sI (sR S_7 507 e x_8) 513 a_9 (2 : Int32)) 609 g) - (1 : Int32))) 611 g ((mI (sI (sI (sR S_7 507 e x_8) 513 a_9 (2 : Int32)) 609 g ((mI (sI (sR S_7 507 e x_8) 513 a_9 (2 : Int32)) 609 g) - (1 : Int32))) 611 g) - (1 : Int32))) 514 a_12 (mI (sI (sI (sI (sR S_7 507 e x_8) 513 a_9 (2 : Int32)) 609 g ((mI (sI (sR S_7 507 e x_8) 513 a_9 (2 : Int32)) 609 g) - (1 : Int32))) 611 g ((mI (sI (sI (sR S_7 507 e x_8) 513 a_9 (2 : Int32)) 609 g ((mI (sI (sR S_7 507 e x_8) 513 a_9 (2 : Int32)) 609 g) - (1 : Int32))) 611 g) - (1 : Int32))) 502 e)) 605 g) - (1 : Int32))) 0 0)))))))))))))))))))))))))))))
    obtain ⟨h1, h2, h3, h4, hC, h6, h7, h8, h9, h10, h11⟩ := hp
    refine ⟨h2, rfl, i, h3, rt, 0, O, A, B, ⟨h1, h4, hC, h6, h7, h8, h9, h10⟩, Nat.le_refl _, Nat.le_refl _, fun x S7 hx => ?_⟩
    obtain ⟨A1, y, B1, rfl, hO, hy, hc, rfl⟩ := hx
    have kf := fgS_keep S g y (i + 1)
    have y5 : isO (fgS S g y (i + 1)) 5 y := kf.isO (hC.2.1 y (by rw [hO]; simp))
    have e5 : isO (fgS S g y (i + 1)) 5 e := kf.isO h2
    have g6 : isO (fgS S g y (i + 1)) 6 g := kf.isO h1
    have e609 : mI (sI (sR (fgS S g y (i + 1)) 507 e (some y)) 513 y (2 : Int32)) 609 g = mI S 609 g := by rw [mI_sI, if_neg (fun z => absurd z.1 (by decide)), mI_sR, fgS_I (by decide)]
    have e611 : mI (sI (sI (sR (fgS S g y (i + 1)) 507 e (some y)) 513 y (2 : Int32)) 609 g (mI S 609 g - (1 : Int32))) 611 g = nI (i + 1) := by rw [mI_sI, if_neg (fun z => absurd z.1 (by decide)), mI_sI, if_neg (fun z => absurd z.1 (by decide)), mI_sR, fgS_611]
    have hsub : nI (i + 1) - (1 : Int32) = nI i := pk_sub (a := i + 1) (b := 1) (by omega)
    have e514 : mI (sI (sI (sI (sR (fgS S g y (i + 1)) 507 e (some y)) 513 y (2 : Int32)) 609 g (mI S 609 g - (1 : Int32))) 611 g (nI i)) 514 y = mI S 514 y := skS_I (by decide) (by decide) (by decide)
    have e502 : mI (sI (sI (sI (sR (fgS S g y (i + 1)) 507 e (some y)) 513 y (2 : Int32)) 609 g (mI S 609 g - (1 : Int32))) 611 g (nI i)) 502 e = mI S 502 e := skS_I (by decide) (by decide) (by decide)
    have e605 : mI (sI (sI (sI (sI (sR (fgS S g y (i + 1)) 507 e (some y)) 513 y (2 : Int32)) 609 g (mI S 609 g - (1 : Int32))) 611 g (nI i)) 514 y (mI S 502 e)) 605 g = mI S 605 g := by rw [mI_sI, if_neg (fun z => absurd z.1 (by decide))]; exact skS_I (by decide) (by decide) (by decide)
    have q1 : ∀ k b, isO (fgS S g y (i + 1)) k b → isO (sI (sR (fgS S g y (i + 1)) 507 e (some y)) 513 y (2 : Int32)) k b := fun k b h => isO_sI (isO_sR h)
    have q2 : ∀ k b, isO (fgS S g y (i + 1)) k b → isO (sI (sI (sR (fgS S g y (i + 1)) 507 e (some y)) 513 y (2 : Int32)) 609 g (mI S 609 g - (1 : Int32))) k b := fun k b h => isO_sI (q1 k b h)
    have q3 : ∀ k b, isO (fgS S g y (i + 1)) k b → isO (sI (sI (sI (sR (fgS S g y (i + 1)) 507 e (some y)) 513 y (2 : Int32)) 609 g (mI S 609 g - (1 : Int32))) 611 g (nI i)) k b := fun k b h => isO_sI (q2 k b h)
    refine ⟨trivial, e5, trivial, isO_sR y5, ?_⟩
    rw [e609, e611, hsub]
    refine ⟨q1 _ _ g6, trivial, q1 _ _ g6, q2 _ _ g6, trivial, q2 _ _ g6, rfl, q3 _ _ y5, Nat.le_refl _, Nat.le_refl _, ?_⟩
    rw [e514]
    refine if_10 (fun z => ⟨rfl, trivial, ⟨rfl, A1, y, B1, hO, hy, hc, ?_⟩, Nat.le_refl _, Nat.le_refl _⟩) (fun z => ⟨q3 _ _ e5, trivial, q3 _ _ y5, ?_⟩)
    · rw [skS2, if_neg z]; rfl
    · rw [e502, e605]
      refine ⟨isO_sI (q3 _ _ g6), trivial, isO_sI (q3 _ _ g6), rfl, trivial, ⟨rfl, A1, y, B1, hO, hy, hc, ?_⟩, Nat.le_refl _, Nat.le_refl _⟩
      rw [skS2, if_pos z]; rfl
  · exact fun _ _ _ _ _ h => by cases h
theorem u_gst (l : Launch) : Us l yX5_strike cX5_strike 3 none 1 22 6 T_gst := by
  intro Rc Rs av S cs sl K Kx h
  unfold T_gst at h
  split at h
  · rename_i g_o e_o
    obtain ⟨g, rfl, h_1⟩ := pa_of h
    obtain ⟨e, rfl, h_2⟩ := pa_of h_1
    obtain ⟨rt, i, O, A, B, hp, hc, hs, hk⟩ := h_2
    refine ⟨(sp_gst g e rt i O A B), c_gst l g e rt i O A B, fun _ _ h9 => ⟨_, _, h9.1, h9.2.1⟩, ⟨rfl, hp⟩, hc, hs, fun S' h8 => by
      obtain ⟨-, h8⟩ := h8
      exact hk _ h8, fun _ _ q => q.elim⟩
  · exact h.elim
/-- how many nodes are visible -/
def visC (S : MM) : List Nat → Nat
  | [] => 0
  | y :: R => (if mI S 514 y = -1 then 1 else 0) + visC S R
theorem visC_app (S : MM) (A B : List Nat) : visC S (A ++ B) = visC S A + visC S B := by
  induction A with
  | nil => exact (Nat.zero_add _).symm
  | cons y A ih => rw [List.cons_append, visC, visC, ih]; omega
def rkF (S : MM) (O : List Nat) (μ : Nat → Nat → Int32) : Prop := ∀ i b, ¬ (i = 515 ∧ b ∈ O) → μ i b = mI S i b
def rkP (S S' : MM) (O : List Nat) : Prop := ∃ μ, S' = wI S μ ∧ rkF S O μ ∧ ∀ A y B, O = A ++ y :: B → μ 515 y = nI (visC S A)
def I_rk (O : List Nat) (S : MM) (t : Nat) : KT := fun lo st S1 cs sl => ∃ p D R μ, t = R.length ∧ O = D ++ R ∧ chn S p R ∧ lo = [(2, .inr (.inr p)), (1, .inl (nI (visC S D)))] ∧ st = [] ∧ S1 = wI S μ ∧ rkF S O μ ∧ (∀ A y B, D = A ++ y :: B → μ 515 y = nI (visC S A)) ∧ cs = 0 ∧ sl = 0
def T_grk : TR := fun Rc Rs av S cs sl K _Kx => match av with
  | [.inr (.inr g_o)] => pa g_o fun g => (∃ (rt : Nat) (O : List Nat), (GCh S g rt O ∧ O.Nodup) ∧ cs ≤ Rc ∧ sl ≤ Rs ∧ (∀ (S' : MM), (rkP S S' O) → K none S' cs sl))
  | _ => False
def sp_grk (g : Nat) (rt : Nat) (O : List Nat) : Sp := (fun av S => av = [.inr (.inr (some g))] ∧ (GCh S g rt O ∧ O.Nodup), fun _ S => 0, fun _ S => 0, fun _ S rv S' => rv = none ∧ (rkP S S' O), fun _ _ _ _ => False)
def tX5_rankByText : CD := [(0, .iconst 0), (1, .istore_n 1), (2, .aload_n 0), (3, .getfield 19), (6, .getfield 147), (9, .astore_n 2), (10, .aload_n 2), (11, .ifnull 31), (14, .aload_n 2), (15, .iload_n 1), (16, .putfield 236), (19, .iload_n 1), (20, .aload_n 2), (21, .invokevirtual 182), (24, .ifCond .eq 7), (27, .iconst 1), (28, .goto 4), (31, .iconst 0), (32, .iadd), (33, .istore_n 1), (34, .aload_n 2), (35, .getfield 147), (38, .astore_n 2), (39, .goto (-29)), (42, .return_)]
set_option maxRecDepth 100000 in
theorem kX5_rankByText : chk cX5_rankByText tX5_rankByText = true := by decide +kernel
theorem vX5_rankByText_182 : ∀ w ∈ ([.methodLink RX5 182 yX4_isVisible, .instanceMethod yX4_isVisible, .selects yX4_isVisible.cls yX4_isVisible yX4_isVisible, .initialized yX4_isVisible.cls, .code yX4_isVisible cX4_isVisible 1 (some .boolean)] : List Cond), w ∈ lw_good := List.forall_mem_cons.mpr ⟨mgd 944 (by decide +kernel) (by decide +kernel), List.forall_mem_cons.mpr ⟨mgd 945 (by decide +kernel) (by decide +kernel), List.forall_mem_cons.mpr ⟨mgd 946 (by decide +kernel) (by decide +kernel), List.forall_mem_cons.mpr ⟨mgd 126 (by decide +kernel) (by decide +kernel), List.forall_mem_cons.mpr ⟨mgd 947 (by decide +kernel) (by decide +kernel), fun _ h => absurd h List.not_mem_nil⟩⟩⟩⟩⟩
set_option maxRecDepth 100000 in
set_option maxHeartbeats 2000000 in
theorem c_grk (l : Launch) : ∀ (g : Nat) (rt : Nat) (O : List Nat), Ct l yX5_rankByText cX5_rankByText 3 none 1 20 (sp_grk g rt O) := by
  intro g rt O
  refine Ct.of (fX5, nX5, aX5, iX5, lX5, [(182, 0, 1, 1, T_vis)], qX5, gX5, []) false tX5_rankByText (fun _ S => look [(10, ([2,1], I_rk O S))]) (by decide) (by decide) kX5_rankByText ⟨_, _, rfl⟩ fX5_ok nX5_ok aX5_ok iX5_ok lX5_ok (fun p e R s m args below meth c Q D cy z r A C hR1 hR2 => List.forall_mem_cons.mpr ⟨cOK_use (fun _ _ _ _ _ _ _ _ h => let ⟨sp, h1, h2, h3⟩ := u_vis l _ _ _ _ _ _ _ _ h; ⟨sp, cOK_V C h1 vX5_rankByText_182 ⟨by decide, by decide, by decide +kernel⟩ ⟨by rw [hR1]; decide, by rw [hR2]; decide⟩ (k := 5) (T := TX4) (N := 16) rfl (by decide) h2, h3⟩), fun _ h => absurd h List.not_mem_nil⟩) qX5_ok gX5_ok rfl ?_ ?_
  · rintro _ S ⟨rfl, hp⟩
    refine ⟨Nat.le_of_ble_eq_true rfl, 300, ?_⟩
    show (isO S 6 g ∧ (pa (mR S 600 g) fun a_1 => isO S 5 a_1 ∧ (∃ k1, I_rk O S k1 [(2, .inr (.inr (mR S 512 a_1))), (1, .inl (0 : Int32))] [] S 0 0)))
    obtain ⟨⟨h1, h2, h3, h4⟩, hn⟩ := hp
    rw [h2]
    exact ⟨h1, h3, O.length, mR S 512 rt, [], O, mI S, rfl, rfl, h4, rfl, rfl, rfl, fun _ _ _ => rfl, (fun A y B e => by simp at e), rfl, rfl⟩
  · intro av S hpre pc I hI k lo st S1 cs sl h
    obtain ⟨rfl, hp⟩ := hpre
    have hm := look_in hI
    rw [List.mem_singleton] at hm
    cases hm
    obtain ⟨p, D, R, μ, rfl, hO, hB, rfl, rfl, rfl, hF, hr, rfl, rfl⟩ := h
    refine ⟨300, ?_⟩
    show ((p = none → (([] : List MV) = [] ∧ mret none (sp_grk g rt O) [.inr (.inr (some g))] S none (wI S μ) 0 0)) ∧ (∀ w_1, p = some w_1 → (True ∧ (pa p fun a_2 => isO (wI S μ) 5 a_2 ∧ (0 = 0 ∧ ((pa p fun a_3 => ((isO (sI (wI S μ) 515 a_2 (nI (visC S D))) 5 a_3) ∧ 0 ≤ 0 ∧ 0 ≤ 0 ∧ ((((if mI (sI (wI S μ) 515 a_2 (nI (visC S D))) 514 a_3 = -1 then 1 else 0) = 0 → (pa p fun a_5 => isO (sI (wI S μ) 515 a_2 (nI (visC S D))) 5 a_5 ∧ (∃ k1, k1 < R.length ∧ I_rk O S k1 [(2, .inr (.inr (mR (sI (wI S μ) 515 a_2 (nI (visC S D))) 512 a_5))), (1, .inl ((nI (visC S D)) + (0 : Int32)))] [] (sI (wI S μ) 515 a_2 (nI (visC S D))) 0 0))) ∧ (¬ (if mI (sI (wI S μ) 515 a_2 (nI (visC S D))) 514 a_3 = -1 then 1 else 0) = 0 → (pa p fun a_6 => isO (sI (wI S μ) 515 a_2 (nI (visC S D))) 5 a_6 ∧ (∃ k1, k1 < R.length ∧ I_rk O S k1 [(2, .inr (.inr (mR (sI (wI S μ) 515 a_2 (nI (visC S D))) 512 a_6))), (1, .inl ((nI (visC S D)) + (1 : Int32)))] [] (sI (wI S μ) 515 a_2 (nI (visC S D))) 0 0)))))))))))))
    obtain ⟨⟨h1, h2, h3, h4⟩, hn⟩ := hp
    refine ⟨fun e => ?_, fun w e => ?_⟩
    · subst e
      rw [hB.no, List.append_nil] at hO
      subst hO
      exact ⟨rfl, trivial, ⟨rfl, μ, rfl, hF, hr⟩, Nat.le_refl _, Nat.le_refl _⟩
    · subst e
      obtain ⟨R2, rfl, r5, r6⟩ := hB.nd
      have hw : w ∈ O := by rw [hO]; simp
      have hwD : w ∉ D := fun q => by
        rw [hO, List.nodup_append] at hn
        exact hn.2.2 w q w (by simp) rfl
      have e514 : mI (wI S (up2 μ 515 w (nI (visC S D)))) 514 w = mI S 514 w := by
        show (if 514 = 515 ∧ w = w then nI (visC S D) else μ 514 w) = _
        rw [if_neg (fun z => absurd z.1 (by decide))]
        exact hF 514 w (fun z => absurd z.1 (by decide))
      have F2 : rkF S O (up2 μ 515 w (nI (visC S D))) := fun i b h => by
        show (if i = 515 ∧ b = w then _ else μ i b) = _
        rw [if_neg (fun z : i = 515 ∧ b = w => h ⟨z.1, by rw [z.2]; exact hw⟩)]
        exact hF i b h
      have st : ∀ A y B, D ++ [w] = A ++ y :: B → up2 μ 515 w (nI (visC S D)) 515 y = nI (visC S A) := by
        intro A y B e
        show (if 515 = 515 ∧ y = w then _ else μ 515 y) = _
        rcases snoc_cases B with z | ⟨B2, v, z⟩
        · subst z
          obtain ⟨e1, e2⟩ := List.append_inj' e rfl
          simp at e2
          rw [if_pos ⟨rfl, e2.symm⟩, e1]
        · subst z
          have e : D ++ [w] = (A ++ y :: B2) ++ [v] := by rw [e]; simp
          obtain ⟨e1, e2⟩ := List.append_inj' e rfl
          rw [if_neg (fun q => hwD (by rw [e1, ← q.2]; simp))]
          exact hr A y B2 e1
      have hO2 : O = (D ++ [w]) ++ R2 := by rw [hO]; simp
      have hv : visC S (D ++ [w]) = visC S D + (if mI S 514 w = -1 then 1 else 0) := by rw [visC_app]; rfl
      refine ⟨trivial, r5, rfl, r5, Nat.le_refl _, Nat.le_refl _, ?_⟩
      rw [sI_wI, e514]
      refine if_10 (fun z => ⟨r5, R2.length, by simp, mR S 512 w, D ++ [w], R2, _, rfl, hO2, r6, ?_, rfl, rfl, F2, st, rfl, rfl⟩) (fun z => ⟨r5, R2.length, by simp, mR S 512 w, D ++ [w], R2, _, rfl, hO2, r6, ?_, rfl, rfl, F2, st, rfl, rfl⟩)
      · rw [hv, if_neg z, Int32.add_zero]; rfl
      · rw [hv, if_pos z, nI_1]; rfl
theorem u_grk (l : Launch) : Us l yX5_rankByText cX5_rankByText 3 none 1 20 6 T_grk := by
  intro Rc Rs av S cs sl K Kx h
  unfold T_grk at h
  split at h
  · rename_i g_o
    obtain ⟨g, rfl, h_1⟩ := pa_of h
    obtain ⟨rt, O, hp, hc, hs, hk⟩ := h_1
    refine ⟨(sp_grk g rt O), c_grk l g rt O, fun _ _ h9 => ⟨_, _, h9.1, h9.2.1.1⟩, ⟨rfl, hp⟩, hc, hs, fun S' h8 => by
      obtain ⟨-, h8⟩ := h8
      exact hk _ h8, fun _ _ q => q.elim⟩
  · exact h.elim
/-! countCritical -/
/-- the sum of an event's counts of ancestors over the first slots -/
def paS (G : Gr) (k : Nat) : Nat → Nat
  | 0 => 0
  | s + 1 => paS G k s + (G.ev k).pa s
def cntT (G : Gr) (k : Nat) : Nat → Nat
  | 0 => 0
  | s + 1 => cntT G k s + G.cnt k s
theorem cntT_0 (G : Gr) : ∀ m, cntT G 0 m = 0
  | 0 => rfl
  | m + 1 => by rw [cntT, cntT_0 G m]; rfl
theorem cntT_s (G : Gr) (k : Nat) : ∀ m, cntT G (k + 1) m = cntT G k m + if (G.ev k).sl < m then 1 else 0
  | 0 => rfl
  | m + 1 => by
    rw [cntT, cntT, cntT_s G k m, Gr.cnt]
    by_cases z : (G.ev k).sl = m
    · rw [if_pos z, if_neg (by omega), if_pos (by omega)]; omega
    · rw [if_neg z]
      by_cases y : (G.ev k).sl < m
      · rw [if_pos y, if_pos (by omega)]; omega
      · rw [if_neg y, if_neg (by omega)]; omega
theorem cntT_k {G : Gr} (h : G.ok) {k : Nat} (hk : k ≤ G.n) : cntT G k G.m = k := by
  induction k with
  | zero => exact cntT_0 G _
  | succ k ih => rw [cntT_s, ih (by omega), if_pos (h.sl1 k (by omega))]
theorem paS_le {G : Gr} (h : G.ok) {k : Nat} (hk : k < G.n) : ∀ m, paS G k m ≤ cntT G k m ∧ (paS G k m = cntT G k m → ∀ s, s < m → (G.ev k).pa s = G.cnt k s)
  | 0 => ⟨Nat.le_refl _, fun _ s hs => absurd hs (Nat.not_lt_zero _)⟩
  | m + 1 => by
    obtain ⟨a, b⟩ := paS_le h hk m
    have c := h.pa2 k m hk
    refine ⟨by rw [paS, cntT]; omega, fun e s hs => ?_⟩
    rw [paS, cntT] at e
    by_cases z : s = m
    · rw [z]; omega
    · exact b (by omega) s (by omega)
theorem paS_all {G : Gr} (h : G.ok) {k : Nat} (hk : k < G.n) : paS G k G.m = k ↔ ∀ j, j < k → G.bef j k = true := by
  obtain ⟨a, b⟩ := paS_le h hk G.m
  rw [cntT_k h (by omega)] at a b
  constructor
  · intro e j hj
    have := b e (G.ev j).sl (h.sl1 j (by omega))
    simp only [Gr.bef, Gr.has, decide_eq_true_eq]
    rw [this, h.nu1 j (by omega)]
    exact Gr.cnt_lt hj
  · intro e
    have key : ∀ s, s < G.m → (G.ev k).pa s = G.cnt k s := by
      intro s _
      refine Nat.le_antisymm (h.pa2 k s hk) (Decidable.byContradiction (fun z => ?_))
      obtain ⟨j, j1, j2, j3⟩ := Gr.at_ex h (Nat.le_of_lt hk) (show (G.ev k).pa s < G.cnt k s by omega)
      have := e j j1
      simp only [Gr.bef, Gr.has, decide_eq_true_eq] at this
      rw [j2, j3] at this
      omega
    have : ∀ m, m ≤ G.m → paS G k m = cntT G k m := by
      intro m hm
      induction m with
      | zero => rfl
      | succ m ih => rw [paS, cntT, ih (by omega), key m (by omega)]
    rw [this _ (Nat.le_refl _), cntT_k h (by omega)]
/-- the least counts of the last t events -/
def lsF (G : Gr) : Nat → Nat → Nat
  | 0, _ => 8192
  | t + 1, s => min (lsF G t s) ((G.ev (G.n - (t + 1))).pa s)
theorem lsF_le (G : Gr) : ∀ t s, lsF G t s ≤ 8192
  | 0, _ => Nat.le_refl _
  | t + 1, s => Nat.le_trans (Nat.min_le_left _ _) (lsF_le G t s)
theorem lsF_lt {G : Gr} {v s : Nat} (hv : v < 8192) : ∀ {t}, t ≤ G.n → (v < lsF G t s ↔ ∀ j, G.n - t ≤ j → j < G.n → v < (G.ev j).pa s)
  | 0, _ => ⟨fun _ j h1 h2 => by omega, fun _ => hv⟩
  | t + 1, ht => by
    rw [lsF]
    have ih := lsF_lt (s := s) hv (t := t) (G := G) (by omega)
    constructor
    · intro h j h1 h2
      by_cases z : j = G.n - (t + 1)
      · rw [z]; omega
      · exact ih.1 (by omega) j (by omega) h2
    · intro h
      have a := ih.2 (fun j h1 h2 => h j (by omega) h2)
      have b := h (G.n - (t + 1)) (Nat.le_refl _) (by omega)
      omega
/-- how many of the last t events are critical -/
noncomputable def crN (G : Gr) : Nat → Nat
  | 0 => 0
  | t + 1 => crN G t + @ite Nat (G.crit (G.n - (t + 1))) (Classical.propDecidable _) 1 0
theorem crN_t {G : Gr} {j : Nat} (hj : j < G.n) (h : G.crit j) : crN G (G.n - j) = crN G (G.n - (j + 1)) + 1 := by
  rw [show G.n - j = (G.n - (j + 1)) + 1 by omega, crN, show G.n - ((G.n - (j + 1)) + 1) = j by omega]
  exact congrArg _ (if_pos h)
theorem crN_f {G : Gr} {j : Nat} (hj : j < G.n) (h : ¬ G.crit j) : crN G (G.n - j) = crN G (G.n - (j + 1)) := by
  rw [show G.n - j = (G.n - (j + 1)) + 1 by omega, crN, show G.n - ((G.n - (j + 1)) + 1) = j by omega]
  exact congrArg _ (if_neg h)
theorem lsF_s {G : Gr} {j s : Nat} (hj : j < G.n) : lsF G (G.n - j) s = min (lsF G (G.n - (j + 1)) s) ((G.ev j).pa s) := by
  rw [show G.n - j = (G.n - (j + 1)) + 1 by omega, lsF, show G.n - ((G.n - (j + 1)) + 1) = j by omega]
def I_cc1 (g le : Nat) (X : GX) (G : Gr) (S : MM) (t : Nat) : KT := fun lo st S1 cs sl => ∃ f j c, t = j * 1000000 + 999 ∧ j ≤ G.n ∧ c = crN G (G.n - j) ∧ lo = [(1, .inl (nI c)), (2, .inl (nI j - 1)), (0, .inr (.inr (some g)))] ∧ st = [] ∧ S1 = rI S le f ∧ (∀ s, s < G.m → f s = nI (lsF G (G.n - j) s)) ∧ cs = 0 ∧ sl = 0
def I_cc2 (g le : Nat) (X : GX) (G : Gr) (S : MM) (t : Nat) : KT := fun lo st S1 cs sl => ∃ f j c i, t = j * 1000000 + 999998 - i ∧ j < G.n ∧ i ≤ G.m ∧ c = crN G (G.n - (j + 1)) ∧ lo = [(4, .inl (tf ((G.ev j).nu < lsF G (G.n - (j + 1)) (G.ev j).sl))), (5, .inl (nI (paS G j i))), (6, .inl (nI i)), (3, .inr (.inr (some (X.ad j)))), (1, .inl (nI c)), (2, .inl (nI j)), (0, .inr (.inr (some g)))] ∧ st = [] ∧ S1 = rI S le f ∧ (∀ s, s < G.m → f s = nI (if s < i then lsF G (G.n - j) s else lsF G (G.n - (j + 1)) s)) ∧ cs = 0 ∧ sl = 0
def T_gcc : TR := fun Rc Rs av S cs sl K _Kx => match av with
  | [.inr (.inr g_o)] => pa g_o fun g => (∃ (tk d c le : Nat) (X : GX) (G : Gr), (isO S 6 g ∧ mR S 601 g = some tk ∧ AL S tk d c 5 ((List.range G.n).map X.ad) ∧ EvT S X G ∧ mR S 608 g = some le ∧ isO S 17 le ∧ mN S le = 16 ∧ mI S 603 g = nI G.m ∧ (∀ j, j < G.n → X.bf j ≠ le)) ∧ cs ≤ Rc ∧ sl ≤ Rs ∧ (∀ (S' : MM), (∃ fl, S' = rI S le fl) → K (some (.inl (nI (crN G G.n)))) S' cs sl))
  | _ => False
def sp_gcc (g : Nat) (tk d c le : Nat) (X : GX) (G : Gr) : Sp := (fun av S => av = [.inr (.inr (some g))] ∧ (isO S 6 g ∧ mR S 601 g = some tk ∧ AL S tk d c 5 ((List.range G.n).map X.ad) ∧ EvT S X G ∧ mR S 608 g = some le ∧ isO S 17 le ∧ mN S le = 16 ∧ mI S 603 g = nI G.m ∧ (∀ j, j < G.n → X.bf j ≠ le)), fun _ S => 0, fun _ S => 0, fun _ S rv S' => rv = (some (.inl (nI (crN G G.n)))) ∧ (∃ fl, S' = rI S le fl), fun _ _ _ _ => False)
def tX5_countCritical : CD := [(0, .aload_n 0), (1, .getfield 53), (4, .sipush 8192), (7, .invokestatic 88), (10, .iconst 0), (11, .istore_n 1), (12, .aload_n 0), (13, .getfield 28), (16, .invokevirtual 68), (19, .iconst 1), (20, .isub), (21, .istore_n 2), (22, .iload_n 2), (23, .ifCond .lt 121), (26, .aload_n 0), (27, .getfield 28), (30, .iload_n 2), (31, .invokevirtual 76), (34, .checkcast 9), (37, .astore_n 3), (38, .aload_n 3), (39, .getfield 129), (42, .aload_n 0), (43, .getfield 53), (46, .aload_n 3), (47, .getfield 125), (50, .getfield 98), (53, .iaload), (54, .if_icmp .ge 7), (57, .iconst 1), (58, .goto 4), (61, .iconst 0), (62, .istore 4), (64, .iconst 0), (65, .istore 5), (67, .iconst 0), (68, .istore 6), (70, .iload 6), (72, .aload_n 0), (73, .getfield 36), (76, .if_icmp .ge 43), (79, .iload 5), (81, .aload_n 3), (82, .iload 6), (84, .invokevirtual 116), (87, .iadd), (88, .istore 5), (90, .aload_n 0), (91, .getfield 53), (94, .iload 6), (96, .aload_n 0), (97, .getfield 53), (100, .iload 6), (102, .iaload), (103, .aload_n 3), (104, .iload 6), (106, .invokevirtual 116), (109, .invokestatic 256), (112, .iastore), (113, .iinc 6 1), (116, .goto (-46)), (119, .iload_n 1), (120, .iload 4), (122, .ifCond .eq 13), (125, .iload 5), (127, .iload_n 2), (128, .if_icmp .ne 7), (131, .iconst 1), (132, .goto 4), (135, .iconst 0), (136, .iadd), (137, .istore_n 1), (138, .iinc 2 (-1)), (141, .goto (-119)), (144, .iload_n 1), (145, .ireturn)]
set_option maxRecDepth 100000 in
theorem kX5_countCritical : chk cX5_countCritical tX5_countCritical = true := by decide +kernel
theorem vX5_countCritical_88 : ∀ w ∈ ([.methodLink RX5 88 yJ7_fill_53178, .static yJ7_fill_53178, .initialized yJ7_fill_53178.cls, .code yJ7_fill_53178 cJ7_fill_53178 4 none] : List Cond), w ∈ lw_good := List.forall_mem_cons.mpr ⟨mgd 878 (by decide +kernel) (by decide +kernel), List.forall_mem_cons.mpr ⟨mgd 604 (by decide +kernel) (by decide +kernel), List.forall_mem_cons.mpr ⟨mgd 135 (by decide +kernel) (by decide +kernel), List.forall_mem_cons.mpr ⟨mgd 605 (by decide +kernel) (by decide +kernel), fun _ h => absurd h List.not_mem_nil⟩⟩⟩⟩
theorem vX5_countCritical_68 : ∀ w ∈ ([.methodLink RX5 68 yJx4a65c_size_8abf5, .instanceMethod yJx4a65c_size_8abf5, .selects yJx4a65c_size_8abf5.cls yJx4a65c_size_8abf5 yJx4a65c_size_8abf5, .initialized yJx4a65c_size_8abf5.cls, .code yJx4a65c_size_8abf5 cJx4a65c_size_8abf5 1 (some .int)] : List Cond), w ∈ lw_good := List.forall_mem_cons.mpr ⟨mgd 672 (by decide +kernel) (by decide +kernel), List.forall_mem_cons.mpr ⟨mgd 673 (by decide +kernel) (by decide +kernel), List.forall_mem_cons.mpr ⟨mgd 674 (by decide +kernel) (by decide +kernel), List.forall_mem_cons.mpr ⟨mgd 130 (by decide +kernel) (by decide +kernel), List.forall_mem_cons.mpr ⟨mgd 675 (by decide +kernel) (by decide +kernel), fun _ h => absurd h List.not_mem_nil⟩⟩⟩⟩⟩
theorem vX5_countCritical_76 : ∀ w ∈ ([.methodLink RX5 76 yJx4a65c_get_915e3, .instanceMethod yJx4a65c_get_915e3, .selects yJx4a65c_get_915e3.cls yJx4a65c_get_915e3 yJx4a65c_get_915e3, .initialized yJx4a65c_get_915e3.cls, .code yJx4a65c_get_915e3 cJx4a65c_get_915e3 2 (some (.object "java/lang/Object"))] : List Cond), w ∈ lw_good := List.forall_mem_cons.mpr ⟨mgd 676 (by decide +kernel) (by decide +kernel), List.forall_mem_cons.mpr ⟨mgd 677 (by decide +kernel) (by decide +kernel), List.forall_mem_cons.mpr ⟨mgd 678 (by decide +kernel) (by decide +kernel), List.forall_mem_cons.mpr ⟨mgd 130 (by decide +kernel) (by decide +kernel), List.forall_mem_cons.mpr ⟨mgd 679 (by decide +kernel) (by decide +kernel), fun _ h => absurd h List.not_mem_nil⟩⟩⟩⟩⟩
theorem vX5_countCritical_116 : ∀ w ∈ ([.methodLink RX5 116 yX4_ancestorsOf, .instanceMethod yX4_ancestorsOf, .selects yX4_ancestorsOf.cls yX4_ancestorsOf yX4_ancestorsOf, .initialized yX4_ancestorsOf.cls, .code yX4_ancestorsOf cX4_ancestorsOf 2 (some .int)] : List Cond), w ∈ lw_good := List.forall_mem_cons.mpr ⟨mgd 883 (by decide +kernel) (by decide +kernel), List.forall_mem_cons.mpr ⟨mgd 884 (by decide +kernel) (by decide +kernel), List.forall_mem_cons.mpr ⟨mgd 885 (by decide +kernel) (by decide +kernel), List.forall_mem_cons.mpr ⟨mgd 126 (by decide +kernel) (by decide +kernel), List.forall_mem_cons.mpr ⟨mgd 886 (by decide +kernel) (by decide +kernel), fun _ h => absurd h List.not_mem_nil⟩⟩⟩⟩⟩
theorem vX5_countCritical_256 : ∀ w ∈ ([.methodLink RX5 256 Lib.Math.min.name, .static Lib.Math.min.name, .initialized "java/lang/Math", .code Lib.Math.min.name Lib.Math.min.code 2 (some .int)] : List Cond), w ∈ lw_good := List.forall_mem_cons.mpr ⟨mgd 1239 (by decide +kernel) (by decide +kernel), List.forall_mem_cons.mpr ⟨mgd 777 (by decide +kernel) (by decide +kernel), List.forall_mem_cons.mpr ⟨mgd 143 (by decide +kernel) (by decide +kernel), List.forall_mem_cons.mpr ⟨mgd 778 (by decide +kernel) (by decide +kernel), fun _ h => absurd h List.not_mem_nil⟩⟩⟩⟩
set_option maxRecDepth 100000 in
set_option maxHeartbeats 2000000 in
theorem c_gcc (l : Launch) : ∀ (g : Nat) (tk d c le : Nat) (X : GX) (G : Gr), Ct l yX5_countCritical cX5_countCritical 7 (some .int) 3 64 (sp_gcc g tk d c le X G) := by
  intro g tk d c le X G
  refine Ct.of (fX5, nX5, aX5, iX5, lX5, [(88, 2, 2, 0, T_fillI), (68, 0, 1, 1, T_alsz), (76, 0, 2, 3, T_alget), (116, 0, 2, 1, T_anc), (256, 2, 2, 1, T_min)], qX5, gX5, []) false tX5_countCritical (fun _ S => look [(22, ([1,2,0], I_cc1 g le X G S)), (70, ([4,5,6,3,1,2,0], I_cc2 g le X G S))]) (by decide) (by decide) kX5_countCritical ⟨_, _, rfl⟩ fX5_ok nX5_ok aX5_ok iX5_ok lX5_ok (fun p e R s m args below meth c Q D cy z r A C hR1 hR2 => List.forall_mem_cons.mpr ⟨cOK_use (fun _ _ _ _ _ _ _ _ h => let ⟨sp, h1, _, h3⟩ := u_fillI l _ _ _ _ _ _ _ _ h; ⟨sp, cOK_S C h1 vX5_countCritical_88 ⟨by decide, by decide, by decide +kernel⟩ ⟨by rw [hR1]; decide, by rw [hR2]; decide⟩, h3⟩), List.forall_mem_cons.mpr ⟨cOK_use (fun _ _ _ _ _ _ _ _ h => let ⟨sp, h1, h2, h3⟩ := u_alsz l _ _ _ _ _ _ _ _ h; ⟨sp, cOK_V C h1 vX5_countCritical_68 ⟨by decide, by decide, by decide +kernel⟩ ⟨by rw [hR1]; decide, by rw [hR2]; decide⟩ (k := 0) (T := TJx4a65c) (N := 3) rfl (by decide) h2, h3⟩), List.forall_mem_cons.mpr ⟨cOK_use (fun _ _ _ _ _ _ _ _ h => let ⟨sp, h1, h2, h3⟩ := u_alget l _ _ _ _ _ _ _ _ h; ⟨sp, cOK_V C h1 vX5_countCritical_76 ⟨by decide, by decide, by decide +kernel⟩ ⟨by rw [hR1]; decide, by rw [hR2]; decide⟩ (k := 0) (T := TJx4a65c) (N := 3) rfl (by decide) h2, h3⟩), List.forall_mem_cons.mpr ⟨cOK_use (fun _ _ _ _ _ _ _ _ h => let ⟨sp, h1, h2, h3⟩ := u_anc l _ _ _ _ _ _ _ _ h; ⟨sp, cOK_V C h1 vX5_countCritical_116 ⟨by decide, by decide, by decide +kernel⟩ ⟨by rw [hR1]; decide, by rw [hR2]; decide⟩ (k := 5) (T := TX4) (N := 16) rfl (by decide) h2, h3⟩), List.forall_mem_cons.mpr ⟨cOK_use (fun _ _ _ _ _ _ _ _ h => ⟨sp_min, cOK_min C vX5_countCritical_256 ⟨by rw [hR1]; decide, by rw [hR2]; decide⟩, T_min_ok h⟩), fun _ h => absurd h List.not_mem_nil⟩⟩⟩⟩⟩) qX5_ok gX5_ok rfl ?_ ?_
  · rintro _ S ⟨rfl, hp⟩
    refine ⟨Nat.le_of_ble_eq_true rfl, 300, ?_⟩
    show (isO S 6 g ∧ (2 = 2 ∧ ((pa (mR S 608 g) fun a_1 => ((isO S 17 a_1 ∧ mN S a_1 < 2147483648) ∧ 0 ≤ 0 ∧ 0 ≤ 0 ∧ ((isO (rI S a_1 (fillF (eI S a_1) (mN S a_1) (8192 : Int32))) 6 g ∧ (0 = 0 ∧ ((pa (mR (rI S a_1 (fillF (eI S a_1) (mN S a_1) (8192 : Int32))) 601 g) fun a_3 => (∃ (d_4 c_5 kk_6 : Nat) (L_7 : List Nat), (AL (rI S a_1 (fillF (eI S a_1) (mN S a_1) (8192 : Int32))) a_3 d_4 c_5 kk_6 L_7) ∧ 0 ≤ 0 ∧ 0 ≤ 0 ∧ ((∃ k1, I_cc1 g le X G S k1 [(1, .inl (0 : Int32)), (2, .inl ((nI L_7.length) - (1 : Int32))), (0, .inr (.inr (some g)))] [] (rI S a_1 (fillF (eI S a_1) (mN S a_1) (8192 : Int32))) 0 0)))))))))))))
    obtain ⟨h1, h2, h3, h4, h5, h6, h7, h8, h9⟩ := hp
    have hll : ((List.range G.n).map X.ad).length = G.n := by rw [List.length_map, List.length_range]
    have hm := h4.1.hm
    rw [h5]
    refine ⟨h1, rfl, ⟨h6, by rw [h7]; decide⟩, Nat.le_refl _, Nat.le_refl _, h1, rfl, pa_i h2 ⟨d, c, 5, _, h3.row17 h6, Nat.le_refl _, Nat.le_refl _, G.n * 1000000 + 999, _, G.n, 0, rfl, Nat.le_refl _, by rw [Nat.sub_self]; rfl, by rw [hll]; rfl, rfl, rfl, fun s hs => ?_, rfl, rfl⟩⟩
    rw [h7, fillF_in (by omega), Nat.sub_self]; rfl
  · intro av S hpre pc I hI k lo st S1 cs sl h
    obtain ⟨rfl, hp⟩ := hpre
    have hm := look_in hI
    simp only [List.mem_cons, List.not_mem_nil, or_false] at hm
    rcases hm with hm | hm
    · cases hm
      obtain ⟨f, j, c9, rfl, hj, rfl, rfl, rfl, rfl, hf, rfl, rfl⟩ := h
      refine ⟨300, ?_⟩
      show (((nI j - 1) < 0 → (([] : List MV) = [] ∧ mret (some .int) (sp_gcc g tk d c le X G) [.inr (.inr (some g))] S (some (.inl (nI (crN G (G.n - j))))) (rI S le f) 0 0)) ∧ (¬ (nI j - 1) < 0 → (isO (rI S le f) 6 g ∧ (0 = 0 ∧ ((pa (mR (rI S le f) 601 g) fun a_1 => (∃ (i_2 : Nat), nI j - 1 = nI i_2 ∧ (∃ (d_3 c_4 kk_5 : Nat) (L_6 : List Nat), (AL (rI S le f) a_1 d_3 c_4 kk_5 L_6 ∧ i_2 < L_6.length) ∧ 0 ≤ 0 ∧ 0 ≤ 0 ∧ (((∀ w_8, (L_6[i_2]?) = some w_8 → isO (rI S le f) 5 w_8) ∧ (pa (L_6[i_2]?) fun a_9 => isO (rI S le f) 5 a_9 ∧ (isO (rI S le f) 6 g ∧ (pa (L_6[i_2]?) fun a_10 => isO (rI S le f) 5 a_10 ∧ (pa (mR (rI S le f) 500 a_10) fun a_11 => isO (rI S le f) 1 a_11 ∧ (pa (mR (rI S le f) 608 g) fun a_12 => ∃ v_13 : Int32, (isO (rI S le f) 17 a_12 ∧ inR (rI S le f) a_12 (mI (rI S le f) 101 a_11) ∧ v_13 = eI (rI S le f) a_12 (mI (rI S le f) 101 a_11).toNatClampNeg ∨ a_12 = (mQ (rI S le f)).1 ∧ vp_in (mI (rI S le f) 101 a_11) 16 ∧ v_13 = mRem (mI (rI S le f) 101 a_11).toNatClampNeg) ∧ ((v_13 ≤ (mI (rI S le f) 501 a_9) → (∃ k1, k1 < (j * 1000000 + 999) ∧ I_cc2 g le X G S k1 [(4, .inl (0 : Int32)), (5, .inl (0 : Int32)), (6, .inl (0 : Int32)), (3, .inr (.inr (L_6[i_2]?))), (1, .inl (nI (crN G (G.n - j)))), (2, .inl (nI j - 1)), (0, .inr (.inr (some g)))] [] (rI S le f) 0 0)) ∧ (¬ v_13 ≤ (mI (rI S le f) 501 a_9) → (∃ k1, k1 < (j * 1000000 + 999) ∧ I_cc2 g le X G S k1 [(4, .inl (1 : Int32)), (5, .inl (0 : Int32)), (6, .inl (0 : Int32)), (3, .inr (.inr (L_6[i_2]?))), (1, .inl (nI (crN G (G.n - j)))), (2, .inl (nI j - 1)), (0, .inr (.inr (some g)))] [] (rI S le f) 0 0))))))))))))))))))
      obtain ⟨h1, h2, h3, h4, h5, h6, h7, h8, h9⟩ := hp
      have hll : ((List.range G.n).map X.ad).length = G.n := by rw [List.length_map, List.length_range]
      have hm := h4.1.hm
      have hn := h4.1.hn
      cases j with
      | zero => exact ⟨fun _ => ⟨rfl, trivial, ⟨rfl, f, rfl⟩, Nat.le_refl _, Nat.le_refl _⟩, fun z => absurd (by decide) z⟩
      | succ j =>
        have ek : nI (j + 1) - (1 : Int32) = nI j := pk_sub (a := j + 1) (b := 1) (by omega)
        have hE : EvT (rI S le f) X G := h4.row h6 h9
        have hA := h3.row17 (f := f) h6
        have el : ((List.range G.n).map X.ad)[j]? = some (X.ad j) := by
          rw [List.getElem?_map, List.getElem?_range (by omega)]; rfl
        obtain ⟨a1, a2, a3, -⟩ := hE.2.1 j (by omega)
        obtain ⟨b1, b2, b3⟩ := hE.agk (k := j) (by omega)
        have hsl := hE.sl (k := j) (by omega)
        have hnu := hE.nu (k := j) (by omega)
        have hsm := h4.1.sl1 j (by omega)
        have r601 : mR (rI S le f) 601 g = some tk := h2
        have r608 : mR (rI S le f) 608 g = some le := h5
        have hls := lsF_le G (G.n - (j + 1)) (G.ev j).sl
        rw [ek, r601]
        refine ⟨fun z => absurd z (nI_pos (by omega)), fun _ => ⟨h1, rfl, j, rfl, d, c, 5, _, ⟨hA, by rw [hll]; omega⟩, Nat.le_refl _, Nat.le_refl _, fun w hw => hA.el (List.mem_of_getElem? hw), ?_⟩⟩
        rw [el]
        refine ⟨a1, h1, a1, ?_⟩
        rw [a2]
        refine ⟨b1, ?_⟩
        rw [r608, b3, a3, nI_clamp (by omega)]
        refine ⟨nI (lsF G (G.n - (j + 1)) (G.ev j).sl), Or.inl ⟨h6, by rw [inR]; show vp_in _ (mN S le); rw [h7]; exact vp_in_nI hsl (by decide), by rw [show eI (rI S le f) le = f from va_up_self _ _ _]; exact (hf _ hsm).symm⟩, if_le (by omega) (by omega) (fun z => ⟨j * 1000000 + 999998 - 0, by omega, f, j, _, 0, rfl, by omega, Nat.zero_le _, rfl, ?_, rfl, rfl, fun s hs => by rw [if_neg (Nat.not_lt_zero _)]; exact hf s hs, rfl, rfl⟩) (fun z => ⟨j * 1000000 + 999998 - 0, by omega, f, j, _, 0, rfl, by omega, Nat.zero_le _, rfl, ?_, rfl, rfl, fun s hs => by rw [if_neg (Nat.not_lt_zero _)]; exact hf s hs, rfl, rfl⟩)⟩
        · rw [tf_f (by omega)]; rfl
        · rw [tf_t z]; rfl
    · cases hm
      obtain ⟨f, j, c9, i, rfl, hj, hi, rfl, rfl, rfl, rfl, hf, rfl, rfl⟩ := h
      refine ⟨300, ?_⟩
      show (isO (rI S le f) 6 g ∧ (((mI (rI S le f) 603 g) ≤ (nI i) → (((tf ((G.ev j).nu < lsF G (G.n - (j + 1)) (G.ev j).sl)) = 0 → (∃ k1, k1 < (j * 1000000 + 999998 - i) ∧ I_cc1 g le X G S k1 [(1, .inl ((nI (crN G (G.n - (j + 1)))) + (0 : Int32))), (2, .inl ((nI j) + (-1 : Int32))), (0, .inr (.inr (some g)))] [] (rI S le f) 0 0)) ∧ (¬ (tf ((G.ev j).nu < lsF G (G.n - (j + 1)) (G.ev j).sl)) = 0 → ((¬ (nI (paS G j i)) = (nI j) → (∃ k1, k1 < (j * 1000000 + 999998 - i) ∧ I_cc1 g le X G S k1 [(1, .inl ((nI (crN G (G.n - (j + 1)))) + (0 : Int32))), (2, .inl ((nI j) + (-1 : Int32))), (0, .inr (.inr (some g)))] [] (rI S le f) 0 0)) ∧ ((nI (paS G j i)) = (nI j) → (∃ k1, k1 < (j * 1000000 + 999998 - i) ∧ I_cc1 g le X G S k1 [(1, .inl ((nI (crN G (G.n - (j + 1)))) + (1 : Int32))), (2, .inl ((nI j) + (-1 : Int32))), (0, .inr (.inr (some g)))] [] (rI S le f) 0 0)))))) ∧ (¬ (mI (rI S le f) 603 g) ≤ (nI i) → (0 = 0 ∧ (∃ (g_1 b_2 : Nat), (isO (rI S le f) 5 (X.ad j) ∧ mR (rI S le f) 500 (X.ad j) = some g_1 ∧ isO (rI S le f) 1 g_1 ∧ mR (rI S le f) 504 (X.ad j) = some b_2 ∧ isO (rI S le f) 17 b_2 ∧ (¬ (nI i) = mI (rI S le f) 101 g_1 → inR (rI S le f) b_2 (nI i))) ∧ 0 ≤ 0 ∧ 0 ≤ 0 ∧ ((isO (rI S le f) 6 g ∧ (isO (rI S le f) 6 g ∧ (pa (mR (rI S le f) 608 g) fun a_4 => ∃ v_5 : Int32, (isO (rI S le f) 17 a_4 ∧ inR (rI S le f) a_4 (nI i) ∧ v_5 = eI (rI S le f) a_4 (nI i).toNatClampNeg ∨ a_4 = (mQ (rI S le f)).1 ∧ vp_in (nI i) 16 ∧ v_5 = mRem (nI i).toNatClampNeg) ∧ (0 = 0 ∧ (∃ (g_6 b_7 : Nat), (isO (rI S le f) 5 (X.ad j) ∧ mR (rI S le f) 500 (X.ad j) = some g_6 ∧ isO (rI S le f) 1 g_6 ∧ mR (rI S le f) 504 (X.ad j) = some b_7 ∧ isO (rI S le f) 17 b_7 ∧ (¬ (nI i) = mI (rI S le f) 101 g_6 → inR (rI S le f) b_7 (nI i))) ∧ 0 ≤ 0 ∧ 0 ≤ 0 ∧ ((2 = 2 ∧ (True ∧ 0 ≤ 0 ∧ 0 ≤ 0 ∧ ((pa (mR (rI S le f) 608 g) fun a_10 => isO (rI S le f) 17 a_10 ∧ inR (rI S le f) a_10 (nI i) ∧ (∃ k1, k1 < (j * 1000000 + 999998 - i) ∧ I_cc2 g le X G S k1 [(4, .inl (tf ((G.ev j).nu < lsF G (G.n - (j + 1)) (G.ev j).sl))), (5, .inl ((nI (paS G j i)) + (evAnc (rI S le f) (X.ad j) g_1 b_2 (nI i)))), (6, .inl ((nI i) + (1 : Int32))), (3, .inr (.inr (some (X.ad j)))), (1, .inl (nI (crN G (G.n - (j + 1))))), (2, .inl (nI j)), (0, .inr (.inr (some g)))] [] (rI (rI S le f) a_10 (upd (eI (rI S le f) a_10) (nI i).toNatClampNeg (imin v_5 (evAnc (rI S le f) (X.ad j) g_6 b_7 (nI i))))) 0 0)))))))))))))))))
      obtain ⟨h1, h2, h3, h4, h5, h6, h7, h8, h9⟩ := hp
      have hm := h4.1.hm
      have hn := h4.1.hn
      have hE : EvT (rI S le f) X G := h4.row h6 h9
      have hnu := hE.nu hj
      have r603 : mI (rI S le f) 603 g = nI G.m := h8
      have r608 : mR (rI S le f) 608 g = some le := h5
      have hpl := (paS_le h4.1 hj G.m).1
      rw [cntT_k h4.1 (by omega)] at hpl
      have em : nI j + (-1 : Int32) = nI j - 1 := (Int32.sub_eq_add_neg _ _).symm
      have hbl : (G.ev j).nu < lsF G (G.n - (j + 1)) (G.ev j).sl ↔ ∀ t, t < G.n → j < t → G.bef j t = true := by
        rw [lsF_lt (by omega) (by omega)]
        constructor
        · intro h t t1 t2
          exact decide_eq_true (h t (by omega) t1)
        · intro h t t1 t2
          exact of_decide_eq_true (h t t2 (by omega))
      rw [r603]
      refine ⟨h1, if_le (by omega) (by omega) (fun z => ?_) (fun z => ?_)⟩
      · have ei : i = G.m := by omega
        subst ei
        have nx : ∀ v : Int32, v = nI (crN G (G.n - j)) → ∃ k1, k1 < j * 1000000 + 999998 - G.m ∧ I_cc1 g le X G S k1 [(1, .inl v), (2, .inl (nI j + (-1 : Int32))), (0, .inr (.inr (some g)))] [] (rI S le f) 0 0 := by
          intro v hv
          exact ⟨j * 1000000 + 999, by omega, f, j, _, rfl, by omega, rfl, by rw [hv, em], rfl, rfl, fun s hs => by rw [hf s hs, if_pos hs], rfl, rfl⟩
        refine if_tf (fun q => nx _ ?_) (fun q => if_ne (by omega) (by omega) (fun y => nx _ ?_) (fun y => nx _ ?_))
        · rw [Int32.add_zero, crN_f hj (fun w => q (hbl.2 w.2))]
        · rw [Int32.add_zero, crN_f hj (fun w => y ((paS_all h4.1 hj).2 w.1))]
        · rw [nI_1, crN_t hj ⟨(paS_all h4.1 hj).1 y, hbl.1 q⟩]
      · have hi16 : i < 16 := by omega
        have hpi := hE.pa hj i
        have hls := lsF_le G (G.n - (j + 1)) i
        obtain ⟨p1, p2, p3, p4, p5, p6⟩ := hE.ancP hj hi16
        have inL : inR (rI S le f) le (nI i) := by rw [inR]; show vp_in _ (mN S le); rw [h7]; exact vp_in_nI hi16 (by decide)
        have eL : eI (rI S le f) le = f := va_up_self _ _ _
        rw [r608, nI_clamp (by omega)]
        refine ⟨rfl, _, _, ⟨p1, p2, p3, p4, p5, p6⟩, Nat.le_refl _, Nat.le_refl _, h1, h1, nI (lsF G (G.n - (j + 1)) i), Or.inl ⟨h6, inL, ?_⟩, rfl, _, _, ⟨p1, p2, p3, p4, p5, p6⟩, Nat.le_refl _, Nat.le_refl _, rfl, trivial, Nat.le_refl _, Nat.le_refl _, h6, inL, j * 1000000 + 999998 - (i + 1), by omega, upd f i (nI (min (lsF G (G.n - (j + 1)) i) ((G.ev j).pa i))), j, _, i + 1, rfl, hj, by omega, rfl, ?_, rfl, ?_, fun s hs => ?_, rfl, rfl⟩
        · rw [eL, hf i z, if_neg (Nat.lt_irrefl _)]
        · rw [hE.anc hj hi16, nI_add, nI_1]; rfl
        · rw [hE.anc hj hi16, eL, imin_nI (by omega) (by omega), rI_rI]
        · by_cases y : s = i
          · subst y
            rw [pk_us, if_pos (by omega), lsF_s hj]
          · rw [pk_un y, hf s hs]
            by_cases x : s < i
            · rw [if_pos x, if_pos (by omega)]
            · rw [if_neg x, if_neg (by omega)]
theorem u_gcc (l : Launch) : Us l yX5_countCritical cX5_countCritical 7 (some .int) 3 64 6 T_gcc := by
  intro Rc Rs av S cs sl K Kx h
  unfold T_gcc at h
  split at h
  · rename_i g_o
    obtain ⟨g, rfl, h_1⟩ := pa_of h
    obtain ⟨tk, d, c, le, X, G, hp, hc, hs, hk⟩ := h_1
    refine ⟨(sp_gcc g tk d c le X G), c_gcc l g tk d c le X G, fun _ _ h9 => ⟨_, _, h9.1, h9.2.1⟩, ⟨rfl, hp⟩, hc, hs, fun v9 S' h8 => by
      obtain ⟨h7, h8⟩ := h8
      cases h7
      exact hk _ h8, fun _ _ q => q.elim⟩
  · exact h.elim
