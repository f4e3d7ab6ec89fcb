/-! ===== Graph.<init>: the walk ===== -/
theorem gi_root {S S7 : MM} {F : Nat → Nat × Nat} {g i q : Nat} (h1 : isO S 6 g) (hF : FO S F) (hi : i ≠ 0) (hq : q ∉ mL S) (k6 : Keep (fun b => b ∉ mL S) S S7) (o6 : isO S7 5 q) (r12 : mR S7 512 q = none) (r8 : mR S7 508 q = none) (r9 : mR S7 509 q = none) : ∃ F' A, A 0 = g ∧ PG (sR S7 600 g (some q)) F' i A 2 ∧ FO (sR S7 600 g (some q)) F' ∧ (∀ b, b ∈ mL S → b ≠ g → F' b = F b) ∧ Keep (fun b => b = g) S (sR S7 600 g (some q)) := by
  have P1 : PG S (fun b => if b = g then (i, 1) else F b) i (fun _ => g) 1 := fun j hj => by
    rw [show j = 0 by omega]
    exact ⟨h1, if_pos rfl⟩
  have FO1 : FO S (fun b => if b = g then (i, 1) else F b) := fun b hb => by
    by_cases z : b = g
    · rw [z]; exact h1.1
    · have hb : (if b = g then (i, 1) else F b) ≠ (0, 0) := hb
      rw [if_neg z] at hb
      exact hF b hb
  obtain ⟨p1, p2, p3, p4⟩ := P1.put (q := q) (r := 2) (y := 1) FO1 hi (Nat.le_refl _) hq k6 o6.1 (fun j hj => by rw [show j = 0 by omega]; decide)
  have u0 : updN (fun _ => g) 1 q 0 = g := updN_o (by decide)
  have u1 : updN (fun _ => g) 1 q 1 = q := updN_s
  have m6 : ∀ j, j ≠ 600 → mR (sR S7 600 g (some q)) j q = mR S7 j q := fun j hj => by rw [mR_sR, if_neg (fun z => hj z.1)]
  have hn : PGf (sR S7 600 g (some q)) (fun b => if b = q then (i, 2) else (fun b => if b = g then (i, 1) else F b) b) i (updN (fun _ => g) 1 q) 1 := by
    unfold PGf
    rw [u0, u1, m6 512 (by decide), m6 508 (by decide), m6 509 (by decide)]
    exact ⟨by rw [mR_sR, if_pos ⟨rfl, rfl⟩], isO_sR o6, if_pos rfl, r12, r8, r9⟩
  exact ⟨_, _, u0, PG.nx p1 hn, p2, fun b hb hbg => (p3 b hb).trans (if_neg hbg), p4⟩
def gA (A : Nat → Nat) (z : Nat) : Nat → Nat := fun j => if j = 3 ∨ j = 6 then z else if j = 7 then 0 else A j
theorem gi_end {S : MM} {F : Nat → Nat × Nat} {i : Nat} {A : Nat → Nat} (h : PG S F i A 11) (hF : FO S F) (hi : i ≠ 0) : GI (sI (sR S 610 (A 0) (some (A 1))) 611 (A 0) 0) F i (gA A (mZ S)) ((fun _ => 0), (fun _ => 0), (fun _ => 0), fun _ => 0) e0 T0 [] (fun _ => 0) := by
  have a0 : gA A (mZ S) 0 = A 0 := rfl
  have a1 : gA A (mZ S) 1 = A 1 := rfl
  have hx : ∀ j, j < 11 → gA A (mZ S) (ixG j) = A (ixG j) := fun j hj => by
    have := (by decide : ∀ j, j < 11 → ¬ (ixG j = 3 ∨ ixG j = 6) ∧ ixG j ≠ 7) j hj
    unfold gA
    rw [if_neg this.1, if_neg this.2]
  have s1 : PG (sR S 610 (A 0) (some (A 1))) F i A 11 := h.step hF hi (by decide) (Keep.sR (P := fun b => b = A 0) Keep.rf rfl) (code := 610) (by decide) (fun c q => by rw [mR_sR, if_neg (fun z => q z.1)]) (fun _ _ => by rw [mI_sR]) (fun _ _ => rfl) (fun _ _ => rfl)
  have s2 : PG (sI (sR S 610 (A 0) (some (A 1))) 611 (A 0) 0) F i (gA A (mZ S)) 11 := s1.step hF hi (by decide) (Keep.sI (P := fun b => b = A 0) Keep.rf rfl) (code := 611) (by decide) (fun _ _ => by rw [mR_sI]) (fun c q => by rw [mI_sI, if_neg (fun z => q z.1)]) (fun _ _ => rfl) hx
  exact s2.gi rfl rfl rfl (by rw [a0, a1, mR_sI, mR_sR, if_pos ⟨rfl, rfl⟩]) (by rw [a0, mI_sI, if_pos ⟨rfl, rfl⟩])
def T_ginit : TR := fun Rc Rs av S cs sl K _Kx => match av with
  | [.inr (.inr g_o)] => pa g_o fun g => (∃ (F : Nat → Nat × Nat) (i : Nat), (isO S 6 g ∧ FO S F ∧ F g = (0, 0) ∧ i ≠ 0) ∧ cs + 11 ≤ Rc ∧ sl + 348 ≤ Rs ∧ (∀ (S' : MM), (giP S S' g i F) → K none S' (cs + 11) (sl + 348)))
  | _ => False
def sp_ginit (g : Nat) (F : Nat → Nat × Nat) (i : Nat) : Sp := (fun av S => av = [.inr (.inr (some g))] ∧ (isO S 6 g ∧ FO S F ∧ F g = (0, 0) ∧ i ≠ 0), fun _ S => 11, fun _ S => 348, fun _ S rv S' => rv = none ∧ (giP S S' g i F), fun _ _ _ _ => False)
def tX5_init : CD := [(0, .aload_n 0), (1, .invokespecial 3), (4, .aload_n 0), (5, .new 9), (8, .dup), (9, .new 11), (12, .dup), (13, .iconst (-1)), (14, .iconst (-1)), (15, .invokespecial 13), (18, .iconst (-1)), (19, .iconst (-1)), (20, .iconst 0), (21, .anewarray 9), (24, .bipush 16), (26, .newarray .int), (28, .iconst (-1)), (29, .iconst (-1)), (30, .invokespecial 16), (33, .putfield 19), (36, .aload_n 0), (37, .new 25), (40, .dup), (41, .invokespecial 27), (44, .putfield 28), (47, .aload_n 0), (48, .sipush 256), (51, .anewarray 11), (54, .putfield 32), (57, .aload_n 0), (58, .iconst 0), (59, .putfield 36), (62, .aload_n 0), (63, .new 25), (66, .dup), (67, .invokespecial 27), (70, .putfield 40), (73, .aload_n 0), (74, .iconst 0), (75, .putfield 43), (78, .aload_n 0), (79, .bipush 16), (81, .newarray .int), (83, .putfield 46), (86, .aload_n 0), (87, .bipush 16), (89, .newarray .int), (91, .putfield 50), (94, .aload_n 0), (95, .bipush 16), (97, .newarray .int), (99, .putfield 53), (102, .aload_n 0), (103, .iconst 0), (104, .putfield 56), (107, .aload_n 0), (108, .aload_n 0), (109, .getfield 19), (112, .putfield 59), (115, .aload_n 0), (116, .iconst 0), (117, .putfield 62), (120, .return_)]
set_option maxRecDepth 100000 in
theorem kX5_init : chk cX5_init tX5_init = true := by decide +kernel
theorem vX5_init_3 : ∀ w ∈ ([.methodLink RX5 3 Lib.objectInit, .instanceMethod Lib.objectInit, .code Lib.objectInit ⟨#[0xb1]⟩ 1 none] : List Cond), w ∈ lw_good := List.forall_mem_cons.mpr ⟨mgd 227 (by decide +kernel) (by decide +kernel), List.forall_mem_cons.mpr ⟨mgd 158 (by decide +kernel) (by decide +kernel), List.forall_mem_cons.mpr ⟨mgd 159 (by decide +kernel) (by decide +kernel), fun _ h => absurd h List.not_mem_nil⟩⟩⟩
theorem vX5_init_13 : ∀ w ∈ ([.instanceMethod yX0_init, .initialized yX0_init.cls, .code yX0_init cX0_init 3 none] : List Cond), w ∈ lw_good := List.forall_mem_cons.mpr ⟨mgd 233 (by decide +kernel) (by decide +kernel), List.forall_mem_cons.mpr ⟨mgd 127 (by decide +kernel) (by decide +kernel), List.forall_mem_cons.mpr ⟨mgd 234 (by decide +kernel) (by decide +kernel), fun _ h => absurd h List.not_mem_nil⟩⟩⟩
theorem vX5_init_16 : ∀ w ∈ ([.instanceMethod yX4_init, .initialized yX4_init.cls, .code yX4_init cX4_init 8 none] : List Cond), w ∈ lw_good := List.forall_mem_cons.mpr ⟨mgd 280 (by decide +kernel) (by decide +kernel), List.forall_mem_cons.mpr ⟨mgd 126 (by decide +kernel) (by decide +kernel), List.forall_mem_cons.mpr ⟨mgd 281 (by decide +kernel) (by decide +kernel), fun _ h => absurd h List.not_mem_nil⟩⟩⟩
theorem vX5_init_27 : ∀ w ∈ ([.instanceMethod yJx4a65c_init_da8c8, .initialized yJx4a65c_init_da8c8.cls, .code yJx4a65c_init_da8c8 cJx4a65c_init_da8c8 1 none] : List Cond), w ∈ lw_good := List.forall_mem_cons.mpr ⟨mgd 239 (by decide +kernel) (by decide +kernel), List.forall_mem_cons.mpr ⟨mgd 130 (by decide +kernel) (by decide +kernel), List.forall_mem_cons.mpr ⟨mgd 240 (by decide +kernel) (by decide +kernel), fun _ h => absurd h List.not_mem_nil⟩⟩⟩
set_option maxRecDepth 100000 in
set_option maxHeartbeats 2000000 in
theorem c_ginit (l : Launch) : ∀ (g : Nat) (F : Nat → Nat × Nat) (i : Nat), Ct l yX5_init cX5_init 1 none 5 102 (sp_ginit g F i) := by
  intro g F i
  refine Ct.of (fX5, nX5, aX5, iX5, lX5, [(3, 1, 1, 0, T_obj), (13, 1, 3, 0, T_agini), (16, 1, 8, 0, T_eini2), (27, 1, 1, 0, T_alini)], qX5, gX5, []) true tX5_init (fun _ S => look [(36, ([0], I_gi g i F 2 5 38 S)), (47, ([0], I_gi g i F 3 6 41 S)), (57, ([0], I_gi g i F 4 7 297 S)), (62, ([0], I_gi g i F 5 7 297 S)), (73, ([0], I_gi g i F 6 8 300 S)), (78, ([0], I_gi g i F 7 8 300 S)), (86, ([0], I_gi g i F 8 9 316 S)), (94, ([0], I_gi g i F 9 10 332 S)), (102, ([0], I_gi g i F 10 11 348 S)), (107, ([0], I_gi g i F 11 11 348 S))]) (by decide) (by decide) kX5_init ⟨_, _, rfl⟩ fX5_ok nX5_ok aX5_ok iX5_ok lX5_ok (fun p e R s m args below meth c Q D cy z r A C hR1 hR2 => List.forall_mem_cons.mpr ⟨cOK_use (fun _ _ _ _ _ _ _ _ h => ⟨spObj, cOK_obj C vX5_init_3 ⟨by rw [hR1]; decide, by rw [hR2]; decide⟩, T_obj_ok h⟩), List.forall_mem_cons.mpr ⟨cOK_use (fun _ _ _ _ _ _ _ _ h => let ⟨sp, h1, h2, h3⟩ := u_agini l _ _ _ _ _ _ _ _ h; ⟨sp, cOK_I C h1 vX5_init_13 (Or.inl (mgd 232 (by decide +kernel) (by decide +kernel))) rfl ⟨by decide, by decide, by decide +kernel⟩ ⟨by rw [hR1]; decide, by rw [hR2]; decide⟩ h2, h3⟩), List.forall_mem_cons.mpr ⟨cOK_use (fun _ _ _ _ _ _ _ _ h => let ⟨sp, h1, h2, h3⟩ := u_eini2 l _ _ _ _ _ _ _ _ h; ⟨sp, cOK_I C h1 vX5_init_16 (Or.inl (mgd 279 (by decide +kernel) (by decide +kernel))) rfl ⟨by decide, by decide, by decide +kernel⟩ ⟨by rw [hR1]; decide, by rw [hR2]; decide⟩ h2, h3⟩), List.forall_mem_cons.mpr ⟨cOK_use (fun _ _ _ _ _ _ _ _ h => let ⟨sp, h1, h2, h3⟩ := u_alini l _ _ _ _ _ _ _ _ h; ⟨sp, cOK_I C h1 vX5_init_27 (Or.inl (mgd 362 (by decide +kernel) (by decide +kernel))) rfl ⟨by decide, by decide, by decide +kernel⟩ ⟨by rw [hR1]; decide, by rw [hR2]; decide⟩ h2, h3⟩), fun _ h => absurd h List.not_mem_nil⟩⟩⟩⟩) qX5_ok gX5_ok rfl ?_ ?_
  · rintro _ S ⟨rfl, hp⟩
    refine ⟨Nat.le_of_ble_eq_true rfl, 300, ?_⟩
    show (1 = 1 ∧ (True ∧ 0 ≤ 11 ∧ 0 ≤ 348 ∧ ((0 + 1 ≤ 11 ∧ 0 + 16 ≤ 348 ∧ ∀ q_2, q_2 ∉ mL S → (0 + 1 + 1 ≤ 11 ∧ 0 + 16 + 3 ≤ 348 ∧ ∀ q_3, q_3 ∉ mL (nO S q_2 5) → (1 = 1 ∧ ((isO (nO (nO S q_2 5) q_3 1) 1 q_3) ∧ 0 + 1 + 1 + 1 ≤ 11 ∧ 0 + 16 + 3 + 3 ≤ 348 ∧ (∀ (S_4 : MM), (∃ q, q ∉ mL (nO (nO S q_2 5) q_3 1) ∧ S_4 = agS (nO (nO S q_2 5) q_3 1) q_3 q (-1 : Int32) (-1 : Int32)) → (¬ (0 : Int32) < 0 ∧ (0 : Int32).toNatClampNeg * 8 ≤ 536870912 ∧ 0 + 1 + 1 + 1 + 1 ≤ 11 ∧ 0 + 16 + 3 + 3 + (0 : Int32).toNatClampNeg ≤ 348 ∧ ∀ q_5, q_5 ∉ mL S_4 → (¬ (16 : Int32) < 0 ∧ (16 : Int32).toNatClampNeg * 8 ≤ 536870912 ∧ 0 + 1 + 1 + 1 + 1 + 1 ≤ 11 ∧ 0 + 16 + 3 + 3 + (0 : Int32).toNatClampNeg + (16 : Int32).toNatClampNeg ≤ 348 ∧ ∀ q_6, q_6 ∉ mL (nA S_4 q_5 23 (0 : Int32).toNatClampNeg) → (1 = 1 ∧ ((isO (nA (nA S_4 q_5 23 (0 : Int32).toNatClampNeg) q_6 17 (16 : Int32).toNatClampNeg) 5 q_2) ∧ 0 + 1 + 1 + 1 + 1 + 1 ≤ 11 ∧ 0 + 16 + 3 + 3 + (0 : Int32).toNatClampNeg + (16 : Int32).toNatClampNeg ≤ 348 ∧ ((true = true ∧ (isO (evS (nA (nA S_4 q_5 23 (0 : Int32).toNatClampNeg) q_6 17 (16 : Int32).toNatClampNeg) q_2 (some q_3) (-1 : Int32) (-1 : Int32) (some q_5) (some q_6) (-1 : Int32) (-1 : Int32)) 6 g ∧ (∃ k1, I_gi g i F 2 5 38 S k1 [(0, .inr (.inr (some g)))] [] (sR (evS (nA (nA S_4 q_5 23 (0 : Int32).toNatClampNeg) q_6 17 (16 : Int32).toNatClampNeg) q_2 (some q_3) (-1 : Int32) (-1 : Int32) (some q_5) (some q_6) (-1 : Int32) (-1 : Int32)) 600 g (some q_2)) (0 + 1 + 1 + 1 + 1 + 1) (0 + 16 + 3 + 3 + (0 : Int32).toNatClampNeg + (16 : Int32).toNatClampNeg)))))))))))))))))
    obtain ⟨h1, hF, hg, hi⟩ := hp
    rw [show (0 : Int32).toNatClampNeg = 0 from by decide, show (16 : Int32).toNatClampNeg = 16 from by decide]
    refine ⟨rfl, trivial, by decide, by decide, by decide, by decide, fun q2 hq2 => ⟨by decide, by decide, fun q3 hq3 => ⟨rfl, isO_nO_self, by decide, by decide, fun S4 hS4 => ?_⟩⟩⟩
    obtain ⟨q4, hq4, rfl⟩ := hS4
    have kA : Keep (fun b => b ∉ mL S) S (agS (nO (nO S q2 5) q3 1) q3 q4 (-1) (-1)) := by
      have n3 : q3 ∉ mL S := fun z => hq3 (List.mem_append_left _ z)
      have n4 : q4 ∉ mL S := fun z => hq4 (List.mem_append_left _ (List.mem_append_left _ z))
      unfold agS
      exact ((((((((Keep.rf.nO hq2).nO hq3).nO hq4).sI n4).sR n4).sR n3).sI n3).sI n3)
    have o2 : isO (agS (nO (nO S q2 5) q3 1) q3 q4 (-1) (-1)) 5 q2 := by
      unfold agS
      exact isO_sI (isO_sI (isO_sR (isO_sR (isO_sI (isO_nO (isO_nO isO_nO_self hq3) hq4)))))
    generalize agS (nO (nO S q2 5) q3 1) q3 q4 (-1) (-1) = S4 at *
    refine ⟨by decide, by decide, by decide, by decide, fun q5 hq5 => ⟨by decide, by decide, by decide, by decide, fun q6 hq6 => ⟨rfl, ?_⟩⟩⟩
    have o5 : isO (nA (nA S4 q5 23 0) q6 17 16) 5 q2 := isO_nA (isO_nA o2 hq5) hq6
    have k5 : Keep (fun b => b ∉ mL S) S (nA (nA S4 q5 23 0) q6 17 16) := (kA.nA hq5).nA hq6
    generalize nA (nA S4 q5 23 0) q6 17 16 = S6 at *
    have k6 : Keep (fun b => b ∉ mL S) S (evS S6 q2 (some q3) (-1) (-1) (some q5) (some q6) (-1) (-1)) := k5.tr (evS_keep hq2)
    have o6 : isO (evS S6 q2 (some q3) (-1) (-1) (some q5) (some q6) (-1) (-1)) 5 q2 := (evS_keep (P := fun b => b = q2) rfl).isO o5
    have r6 : ∀ j, mR (evS S6 q2 (some q3) (-1) (-1) (some q5) (some q6) (-1) (-1)) j q2 = _ := fun j => evS_R
    have r12 : mR (evS S6 q2 (some q3) (-1) (-1) (some q5) (some q6) (-1) (-1)) 512 q2 = none := by rw [r6, if_neg (by decide), if_neg (by decide), if_neg (by decide), if_pos (by decide)]
    have r8 : mR (evS S6 q2 (some q3) (-1) (-1) (some q5) (some q6) (-1) (-1)) 508 q2 = none := by rw [r6, if_neg (by decide), if_neg (by decide), if_neg (by decide), if_pos (by decide)]
    have r9 : mR (evS S6 q2 (some q3) (-1) (-1) (some q5) (some q6) (-1) (-1)) 509 q2 = none := by rw [r6, if_neg (by decide), if_neg (by decide), if_neg (by decide), if_pos (by decide)]
    clear r6
    refine ⟨o5, by decide, by decide, rfl, k6.isO h1, 18, rfl, rfl, rfl, ?_, rfl, rfl⟩
    generalize evS S6 q2 (some q3) (-1) (-1) (some q5) (some q6) (-1) (-1) = S7 at *
    exact gi_root h1 hF hi hq2 k6 o6 r12 r8 r9
  · intro av S hpre pc I hI k lo st S1 cs sl h
    obtain ⟨rfl, hp⟩ := hpre
    have hm := look_in hI
    simp only [List.mem_cons, List.not_mem_nil, or_false] at hm
    rcases hm with hm | hm | hm | hm | hm | hm | hm | hm | hm | hm
    · cases hm
      obtain ⟨rfl, rfl, rfl, ⟨F1, A, a0, hP, hO, hf, hK⟩, rfl, rfl⟩ := h
      refine ⟨300, ?_⟩
      show (5 + 1 ≤ 11 ∧ 38 + 3 ≤ 348 ∧ ∀ q_1, q_1 ∉ mL S1 → (1 = 1 ∧ ((isO (nO S1 q_1 0) 0 q_1) ∧ 5 + 1 ≤ 11 ∧ 38 + 3 ≤ 348 ∧ ((true = true ∧ (isO (sR (sI (nO S1 q_1 0) 0 q_1 0) 1 q_1 (some (mZ (nO S1 q_1 0)))) 6 g ∧ (∃ k1, k1 < 20 - 2 ∧ I_gi g i F 3 6 41 S k1 [(0, .inr (.inr (some g)))] [] (sR (sR (sI (nO S1 q_1 0) 0 q_1 0) 1 q_1 (some (mZ (nO S1 q_1 0)))) 601 g (some q_1)) (5 + 1) (38 + 3))))))))
      subst a0
      obtain ⟨h1, hF, hg, hi⟩ := hp
      have g1 := (hP 0 (by decide)).1
      refine ⟨by decide, by decide, fun q hq => ⟨rfl, isO_nO_self, by decide, by decide, rfl, ?_⟩⟩
      obtain ⟨al, ak⟩ := AL.new (S := S1) hq
      have ak' : Keep (fun b => b ∉ mL S1) S1 (sR (sI (nO S1 q 0) 0 q 0) 1 q (some (mZ (nO S1 q 0)))) := ak.mono (fun b hb z => absurd (z ▸ hb) hq)
      have az : mZ (sR (sI (nO S1 q 0) 0 q 0) 1 q (some (mZ (nO S1 q 0)))) = mZ S1 := rfl
      generalize sR (sI (nO S1 q 0) 0 q 0) 1 q (some (mZ (nO S1 q 0))) = S2 at *
      refine ⟨ak.isO g1, 20 - 3, by decide, rfl, rfl, rfl, ?_, rfl, rfl⟩
      obtain ⟨p1, p2, p3, p4⟩ := hP.put (q := q) (r := 3) (y := 2) hO hi (by decide) hq ak' al.1.1 (fun j hj => (by decide : ∀ j, j < 2 → ixG j ≠ 2) j hj)
      refine ⟨_, _, updN_o (by decide), p1.nx ⟨?_, if_pos rfl, ?_⟩, p2, fun b hb hbg => (p3 b (hK.1 b hb).1).trans (hf b hb hbg), hK.tr p4⟩
      · rw [show updN A 2 q 0 = A 0 from updN_o (by decide)]; exact if_pos ⟨rfl, rfl⟩
      · have gq : q ≠ A 0 := fun z => hq (z ▸ g1.1)
        rw [show updN A 2 q 2 = q from updN_s, show mZ (sR S2 601 (A 0) (some q)) = mZ S1 from az]
        exact al.keepc (Keep.sR (P := fun b => b = A 0) Keep.rf rfl) gq (fun z => absurd rfl z)
    · cases hm
      obtain ⟨rfl, rfl, rfl, ⟨F1, A, a0, hP, hO, hf, hK⟩, rfl, rfl⟩ := h
      refine ⟨300, ?_⟩
      show (¬ (256 : Int32) < 0 ∧ (256 : Int32).toNatClampNeg * 8 ≤ 536870912 ∧ 6 + 1 ≤ 11 ∧ 41 + (256 : Int32).toNatClampNeg ≤ 348 ∧ ∀ q_1, q_1 ∉ mL S1 → (true = true ∧ (isO (nA S1 q_1 21 (256 : Int32).toNatClampNeg) 6 g ∧ (∃ k1, k1 < 20 - 3 ∧ I_gi g i F 4 7 297 S k1 [(0, .inr (.inr (some g)))] [] (sR (nA S1 q_1 21 (256 : Int32).toNatClampNeg) 602 g (some q_1)) (6 + 1) (41 + (256 : Int32).toNatClampNeg)))))
      subst a0
      obtain ⟨h1, hF, hg, hi⟩ := hp
      have g1 := (hP 0 (by decide)).1
      rw [show (256 : Int32).toNatClampNeg = 256 from by decide]
      refine ⟨by decide, by decide, by decide, by decide, fun q hq => ⟨rfl, isO_nA g1 hq, 20 - 4, by decide, rfl, rfl, rfl, ?_, rfl, rfl⟩⟩
      have ak' : Keep (fun b => b ∉ mL S1) S1 (nA S1 q 21 256) := Keep.rf.nA hq
      obtain ⟨p1, p2, p3, p4⟩ := hP.put (q := q) (r := 5) (y := 4) hO hi (by decide) hq ak' isO_nA_self.1 (fun j hj => (by decide : ∀ j, j < 3 → ixG j ≠ 4) j hj)
      have u0 : updN A 4 q 0 = A 0 := updN_o (by decide)
      have uy : updN A 4 q 4 = q := updN_s
      have m0 : mN (sR (nA S1 q 21 256) 602 (A 0) (some q)) q = 256 := by rw [mN_sR, mN_nA, if_pos rfl]
      have eI0 : eI (sR (nA S1 q 21 256) 602 (A 0) (some q)) q = fun _ => 0 := va_up_self _ _ _
      have eR0 : eR (sR (nA S1 q 21 256) 602 (A 0) (some q)) q = fun _ => none := va_up_self _ _ _
      have oq : isO (sR (nA S1 q 21 256) 602 (A 0) (some q)) 21 q := isO_sR isO_nA_self
      refine ⟨_, _, u0, p1.nx ?_, p2, fun b hb hbg => (p3 b (hK.1 b hb).1).trans (hf b hb hbg), hK.tr p4⟩
      unfold PGf
      rw [u0, uy]
      exact ⟨if_pos ⟨rfl, rfl⟩, oq, if_pos rfl, m0, fun j => by rw [eR0]⟩
    · cases hm
      obtain ⟨rfl, rfl, rfl, ⟨F1, A, a0, hP, hO, hf, hK⟩, rfl, rfl⟩ := h
      refine ⟨300, ?_⟩
      show (True ∧ (isO S1 6 g ∧ (∃ k1, k1 < 20 - 4 ∧ I_gi g i F 5 7 297 S k1 [(0, .inr (.inr (some g)))] [] (sI S1 603 g (0 : Int32)) 7 297)))
      subst a0
      obtain ⟨h1, hF, hg, hi⟩ := hp
      have g1 := (hP 0 (by decide)).1
      refine ⟨trivial, g1, 20 - 5, by decide, rfl, rfl, rfl, ?_, rfl, rfl⟩
      obtain ⟨p1, p4⟩ := hP.int (v := 0) hO hi (by decide)
      exact ⟨F1, A, rfl, p1.nx (if_pos ⟨rfl, rfl⟩), hO, hf, hK.tr p4⟩
    · cases hm
      obtain ⟨rfl, rfl, rfl, ⟨F1, A, a0, hP, hO, hf, hK⟩, rfl, rfl⟩ := h
      refine ⟨300, ?_⟩
      show (7 + 1 ≤ 11 ∧ 297 + 3 ≤ 348 ∧ ∀ q_1, q_1 ∉ mL S1 → (1 = 1 ∧ ((isO (nO S1 q_1 0) 0 q_1) ∧ 7 + 1 ≤ 11 ∧ 297 + 3 ≤ 348 ∧ ((true = true ∧ (isO (sR (sI (nO S1 q_1 0) 0 q_1 0) 1 q_1 (some (mZ (nO S1 q_1 0)))) 6 g ∧ (∃ k1, k1 < 20 - 5 ∧ I_gi g i F 6 8 300 S k1 [(0, .inr (.inr (some g)))] [] (sR (sR (sI (nO S1 q_1 0) 0 q_1 0) 1 q_1 (some (mZ (nO S1 q_1 0)))) 604 g (some q_1)) (7 + 1) (297 + 3))))))))
      subst a0
      obtain ⟨h1, hF, hg, hi⟩ := hp
      have g1 := (hP 0 (by decide)).1
      refine ⟨by decide, by decide, fun q hq => ⟨rfl, isO_nO_self, by decide, by decide, rfl, ?_⟩⟩
      obtain ⟨al, ak⟩ := AL.new (S := S1) hq
      have ak' : Keep (fun b => b ∉ mL S1) S1 (sR (sI (nO S1 q 0) 0 q 0) 1 q (some (mZ (nO S1 q 0)))) := ak.mono (fun b hb z => absurd (z ▸ hb) hq)
      have az : mZ (sR (sI (nO S1 q 0) 0 q 0) 1 q (some (mZ (nO S1 q 0)))) = mZ S1 := rfl
      generalize sR (sI (nO S1 q 0) 0 q 0) 1 q (some (mZ (nO S1 q 0))) = S2 at *
      refine ⟨ak.isO g1, 20 - 6, by decide, rfl, rfl, rfl, ?_, rfl, rfl⟩
      obtain ⟨p1, p2, p3, p4⟩ := hP.put (q := q) (r := 6) (y := 5) hO hi (by decide) hq ak' al.1.1 (fun j hj => (by decide : ∀ j, j < 5 → ixG j ≠ 5) j hj)
      refine ⟨_, _, updN_o (by decide), p1.nx ⟨?_, if_pos rfl, ?_⟩, p2, fun b hb hbg => (p3 b (hK.1 b hb).1).trans (hf b hb hbg), hK.tr p4⟩
      · rw [show updN A 5 q 0 = A 0 from updN_o (by decide)]; exact if_pos ⟨rfl, rfl⟩
      · have gq : q ≠ A 0 := fun z => hq (z ▸ g1.1)
        rw [show updN A 5 q 5 = q from updN_s, show mZ (sR S2 604 (A 0) (some q)) = mZ S1 from az]
        exact al.keepc (Keep.sR (P := fun b => b = A 0) Keep.rf rfl) gq (fun z => absurd rfl z)
    · cases hm
      obtain ⟨rfl, rfl, rfl, ⟨F1, A, a0, hP, hO, hf, hK⟩, rfl, rfl⟩ := h
      refine ⟨300, ?_⟩
      show (True ∧ (isO S1 6 g ∧ (∃ k1, k1 < 20 - 6 ∧ I_gi g i F 7 8 300 S k1 [(0, .inr (.inr (some g)))] [] (sI S1 605 g (0 : Int32)) 8 300)))
      subst a0
      obtain ⟨h1, hF, hg, hi⟩ := hp
      have g1 := (hP 0 (by decide)).1
      refine ⟨trivial, g1, 20 - 7, by decide, rfl, rfl, rfl, ?_, rfl, rfl⟩
      obtain ⟨p1, p4⟩ := hP.int (v := 0) hO hi (by decide)
      exact ⟨F1, A, rfl, p1.nx (if_pos ⟨rfl, rfl⟩), hO, hf, hK.tr p4⟩
    · cases hm
      obtain ⟨rfl, rfl, rfl, ⟨F1, A, a0, hP, hO, hf, hK⟩, rfl, rfl⟩ := h
      refine ⟨300, ?_⟩
      show (¬ (16 : Int32) < 0 ∧ (16 : Int32).toNatClampNeg * 8 ≤ 536870912 ∧ 8 + 1 ≤ 11 ∧ 300 + (16 : Int32).toNatClampNeg ≤ 348 ∧ ∀ q_1, q_1 ∉ mL S1 → (true = true ∧ (isO (nA S1 q_1 17 (16 : Int32).toNatClampNeg) 6 g ∧ (∃ k1, k1 < 20 - 7 ∧ I_gi g i F 8 9 316 S k1 [(0, .inr (.inr (some g)))] [] (sR (nA S1 q_1 17 (16 : Int32).toNatClampNeg) 606 g (some q_1)) (8 + 1) (300 + (16 : Int32).toNatClampNeg)))))
      subst a0
      obtain ⟨h1, hF, hg, hi⟩ := hp
      have g1 := (hP 0 (by decide)).1
      rw [show (16 : Int32).toNatClampNeg = 16 from by decide]
      refine ⟨by decide, by decide, by decide, by decide, fun q hq => ⟨rfl, isO_nA g1 hq, 20 - 8, by decide, rfl, rfl, rfl, ?_, rfl, rfl⟩⟩
      have ak' : Keep (fun b => b ∉ mL S1) S1 (nA S1 q 17 16) := Keep.rf.nA hq
      obtain ⟨p1, p2, p3, p4⟩ := hP.put (q := q) (r := 8) (y := 8) hO hi (by decide) hq ak' isO_nA_self.1 (fun j hj => (by decide : ∀ j, j < 7 → ixG j ≠ 8) j hj)
      have u0 : updN A 8 q 0 = A 0 := updN_o (by decide)
      have uy : updN A 8 q 8 = q := updN_s
      have m0 : mN (sR (nA S1 q 17 16) 606 (A 0) (some q)) q = 16 := by rw [mN_sR, mN_nA, if_pos rfl]
      have eI0 : eI (sR (nA S1 q 17 16) 606 (A 0) (some q)) q = fun _ => 0 := va_up_self _ _ _
      have eR0 : eR (sR (nA S1 q 17 16) 606 (A 0) (some q)) q = fun _ => none := va_up_self _ _ _
      have oq : isO (sR (nA S1 q 17 16) 606 (A 0) (some q)) 17 q := isO_sR isO_nA_self
      refine ⟨_, _, u0, p1.nx ?_, p2, fun b hb hbg => (p3 b (hK.1 b hb).1).trans (hf b hb hbg), hK.tr p4⟩
      unfold PGf
      rw [u0, uy]
      exact ⟨if_pos ⟨rfl, rfl⟩, if_pos rfl, oq, m0, fun j => by rw [eI0]⟩
    · cases hm
      obtain ⟨rfl, rfl, rfl, ⟨F1, A, a0, hP, hO, hf, hK⟩, rfl, rfl⟩ := h
      refine ⟨300, ?_⟩
      show (¬ (16 : Int32) < 0 ∧ (16 : Int32).toNatClampNeg * 8 ≤ 536870912 ∧ 9 + 1 ≤ 11 ∧ 316 + (16 : Int32).toNatClampNeg ≤ 348 ∧ ∀ q_1, q_1 ∉ mL S1 → (true = true ∧ (isO (nA S1 q_1 17 (16 : Int32).toNatClampNeg) 6 g ∧ (∃ k1, k1 < 20 - 8 ∧ I_gi g i F 9 10 332 S k1 [(0, .inr (.inr (some g)))] [] (sR (nA S1 q_1 17 (16 : Int32).toNatClampNeg) 607 g (some q_1)) (9 + 1) (316 + (16 : Int32).toNatClampNeg)))))
      subst a0
      obtain ⟨h1, hF, hg, hi⟩ := hp
      have g1 := (hP 0 (by decide)).1
      rw [show (16 : Int32).toNatClampNeg = 16 from by decide]
      refine ⟨by decide, by decide, by decide, by decide, fun q hq => ⟨rfl, isO_nA g1 hq, 20 - 9, by decide, rfl, rfl, rfl, ?_, rfl, rfl⟩⟩
      have ak' : Keep (fun b => b ∉ mL S1) S1 (nA S1 q 17 16) := Keep.rf.nA hq
      obtain ⟨p1, p2, p3, p4⟩ := hP.put (q := q) (r := 9) (y := 9) hO hi (by decide) hq ak' isO_nA_self.1 (fun j hj => (by decide : ∀ j, j < 8 → ixG j ≠ 9) j hj)
      have u0 : updN A 9 q 0 = A 0 := updN_o (by decide)
      have uy : updN A 9 q 9 = q := updN_s
      have m0 : mN (sR (nA S1 q 17 16) 607 (A 0) (some q)) q = 16 := by rw [mN_sR, mN_nA, if_pos rfl]
      have eI0 : eI (sR (nA S1 q 17 16) 607 (A 0) (some q)) q = fun _ => 0 := va_up_self _ _ _
      have eR0 : eR (sR (nA S1 q 17 16) 607 (A 0) (some q)) q = fun _ => none := va_up_self _ _ _
      have oq : isO (sR (nA S1 q 17 16) 607 (A 0) (some q)) 17 q := isO_sR isO_nA_self
      refine ⟨_, _, u0, p1.nx ?_, p2, fun b hb hbg => (p3 b (hK.1 b hb).1).trans (hf b hb hbg), hK.tr p4⟩
      unfold PGf
      rw [u0, uy]
      exact ⟨if_pos ⟨rfl, rfl⟩, if_pos rfl, oq, m0⟩
    · cases hm
      obtain ⟨rfl, rfl, rfl, ⟨F1, A, a0, hP, hO, hf, hK⟩, rfl, rfl⟩ := h
      refine ⟨300, ?_⟩
      show (¬ (16 : Int32) < 0 ∧ (16 : Int32).toNatClampNeg * 8 ≤ 536870912 ∧ 10 + 1 ≤ 11 ∧ 332 + (16 : Int32).toNatClampNeg ≤ 348 ∧ ∀ q_1, q_1 ∉ mL S1 → (true = true ∧ (isO (nA S1 q_1 17 (16 : Int32).toNatClampNeg) 6 g ∧ (∃ k1, k1 < 20 - 9 ∧ I_gi g i F 10 11 348 S k1 [(0, .inr (.inr (some g)))] [] (sR (nA S1 q_1 17 (16 : Int32).toNatClampNeg) 608 g (some q_1)) (10 + 1) (332 + (16 : Int32).toNatClampNeg)))))
      subst a0
      obtain ⟨h1, hF, hg, hi⟩ := hp
      have g1 := (hP 0 (by decide)).1
      rw [show (16 : Int32).toNatClampNeg = 16 from by decide]
      refine ⟨by decide, by decide, by decide, by decide, fun q hq => ⟨rfl, isO_nA g1 hq, 20 - 10, by decide, rfl, rfl, rfl, ?_, rfl, rfl⟩⟩
      have ak' : Keep (fun b => b ∉ mL S1) S1 (nA S1 q 17 16) := Keep.rf.nA hq
      obtain ⟨p1, p2, p3, p4⟩ := hP.put (q := q) (r := 10) (y := 10) hO hi (by decide) hq ak' isO_nA_self.1 (fun j hj => (by decide : ∀ j, j < 9 → ixG j ≠ 10) j hj)
      have u0 : updN A 10 q 0 = A 0 := updN_o (by decide)
      have uy : updN A 10 q 10 = q := updN_s
      have m0 : mN (sR (nA S1 q 17 16) 608 (A 0) (some q)) q = 16 := by rw [mN_sR, mN_nA, if_pos rfl]
      have eI0 : eI (sR (nA S1 q 17 16) 608 (A 0) (some q)) q = fun _ => 0 := va_up_self _ _ _
      have eR0 : eR (sR (nA S1 q 17 16) 608 (A 0) (some q)) q = fun _ => none := va_up_self _ _ _
      have oq : isO (sR (nA S1 q 17 16) 608 (A 0) (some q)) 17 q := isO_sR isO_nA_self
      refine ⟨_, _, u0, p1.nx ?_, p2, fun b hb hbg => (p3 b (hK.1 b hb).1).trans (hf b hb hbg), hK.tr p4⟩
      unfold PGf
      rw [u0, uy]
      exact ⟨if_pos ⟨rfl, rfl⟩, if_pos rfl, oq, m0⟩
    · cases hm
      obtain ⟨rfl, rfl, rfl, ⟨F1, A, a0, hP, hO, hf, hK⟩, rfl, rfl⟩ := h
      refine ⟨300, ?_⟩
      show (True ∧ (isO S1 6 g ∧ (∃ k1, k1 < 20 - 10 ∧ I_gi g i F 11 11 348 S k1 [(0, .inr (.inr (some g)))] [] (sI S1 609 g (0 : Int32)) 11 348)))
      subst a0
      obtain ⟨h1, hF, hg, hi⟩ := hp
      have g1 := (hP 0 (by decide)).1
      refine ⟨trivial, g1, 20 - 11, by decide, rfl, rfl, rfl, ?_, rfl, rfl⟩
      obtain ⟨p1, p4⟩ := hP.int (v := 0) hO hi (by decide)
      exact ⟨F1, A, rfl, p1.nx (if_pos ⟨rfl, rfl⟩), hO, hf, hK.tr p4⟩
    · cases hm
      obtain ⟨rfl, rfl, rfl, ⟨F1, A, a0, hP, hO, hf, hK⟩, rfl, rfl⟩ := h
      refine ⟨300, ?_⟩
      show (isO S1 6 g ∧ (True ∧ (isO S1 6 g ∧ (True ∧ (isO (sR S1 610 g (mR S1 600 g)) 6 g ∧ (([] : List MV) = [] ∧ mret none (sp_ginit g F i) [.inr (.inr (some g))] S none (sI (sR S1 610 g (mR S1 600 g)) 611 g (0 : Int32)) 11 348))))))
      subst a0
      obtain ⟨h1, hF, hg, hi⟩ := hp
      have g1 := (hP 0 (by decide)).1
      have e600 := (hP 1 (by decide)).1
      rw [e600]
      exact ⟨g1, trivial, g1, trivial, isO_sR g1, rfl, trivial, ⟨rfl, F1, gA A (mZ S1), _, rfl, gi_end hP hO hi, hO, hf, (hK.sR rfl).sI rfl⟩, Nat.le_refl 11, Nat.le_refl 348⟩
theorem u_ginit (l : Launch) : Us l yX5_init cX5_init 1 none 5 102 98 T_ginit := by
  intro Rc Rs av S cs sl K Kx h
  unfold T_ginit at h
  split at h
  · rename_i g_o
    obtain ⟨g, rfl, h_1⟩ := pa_of h
    obtain ⟨F, i, hp, hc, hs, hk⟩ := h_1
    refine ⟨(sp_ginit g F i), c_ginit l g F i, fun _ _ h9 => ⟨_, _, h9.1⟩, ⟨rfl, hp⟩, hc, hs, fun S' h8 => by
      obtain ⟨-, h8⟩ := h8
      exact hk _ h8, fun _ _ q => q.elim⟩
  · exact h.elim
