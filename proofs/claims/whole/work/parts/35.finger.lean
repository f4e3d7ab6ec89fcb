/-! ===== Graph: the finger, the heads ===== -/
/-- the chain both ways -/
def ChP (S : MM) (rt : Nat) (O : List Nat) : Prop := isO S 5 rt ∧ (∀ y ∈ O, isO S 5 y) ∧ (∀ A B, O = A ++ B → mR S 512 (A.getLastD rt) = B.head?) ∧ ∀ A y B, O = A ++ y :: B → mR S 511 y = some (A.getLastD rt)
theorem snoc_cases (A : List Nat) : A = [] ∨ ∃ B y, A = B ++ [y] := by
  rcases List.eq_nil_or_concat A with z | ⟨B, y, z⟩
  · exact Or.inl z
  · exact Or.inr ⟨B, y, by rw [z, List.concat_eq_append]⟩
theorem ChP.in {S : MM} {rt : Nat} {O : List Nat} (h : ChP S rt O) {A B : List Nat} (e : O = A ++ B) : isO S 5 (A.getLastD rt) := by
  rcases snoc_cases A with z | ⟨A2, y, z⟩
  · rw [z]; exact h.1
  · rw [z] at e ⊢
    rw [List.getLastD_concat]
    exact h.2.1 y (by rw [e]; simp)
def seenC (S : MM) : List Nat → Nat
  | [] => 0
  | y :: R => (if mI S 513 y = 1 then 1 else 0) + seenC S R
theorem seenC_app (S : MM) (A B : List Nat) : seenC S (A ++ B) = seenC S A + seenC S B := by
  induction A with
  | nil => exact (Nat.zero_add _).symm
  | cons y A ih => rw [List.cons_append, seenC, seenC, ih]; omega
theorem seenC_le (S : MM) (A : List Nat) : seenC S A ≤ A.length := by
  induction A with
  | nil => exact Nat.le_refl _
  | cons y A ih => rw [seenC, List.length_cons]; split <;> omega
def fgS (S : MM) (g f t : Nat) : MM := sI (sR S 610 g (some f)) 611 g (nI t)
theorem fgS_keep (S : MM) (g f t : Nat) : Keep (fun b => b = g) S (fgS S g f t) := ((Keep.rf : Keep (fun b => b = g) S S).sR rfl).sI rfl
theorem fgS_I {S : MM} {g f t i a : Nat} (h : i ≠ 611) : mI (fgS S g f t) i a = mI S i a := by rw [fgS, mI_sI, if_neg (fun z => h z.1)]; rfl
theorem fgS_R {S : MM} {g f t i a : Nat} (h : i ≠ 610) : mR (fgS S g f t) i a = mR S i a := by
  show mR (sR S 610 g (some f)) i a = _
  rw [mR_sR, if_neg (fun z => h z.1)]
theorem fgS_610 {S : MM} {g f t : Nat} : mR (fgS S g f t) 610 g = some f := by
  show mR (sR S 610 g (some f)) 610 g = _
  rw [mR_sR, if_pos ⟨rfl, rfl⟩]
theorem fgS_611 {S : MM} {g f t : Nat} : mI (fgS S g f t) 611 g = nI t := by rw [fgS, mI_sI, if_pos ⟨rfl, rfl⟩]
theorem fgS_1 {S : MM} {g f t f2 : Nat} : sR (fgS S g f t) 610 g (some f2) = fgS S g f2 t := by
  have e : up2 (up2 (mR S) 610 g (some f)) 610 g (some f2) = up2 (mR S) 610 g (some f2) := by
    funext i b
    show (if i = 610 ∧ b = g then _ else if i = 610 ∧ b = g then _ else _) = if i = 610 ∧ b = g then _ else _
    split <;> rfl
  show (mL S, mK S, up2 (mI S) 611 g (nI t), up2 (up2 (mR S) 610 g (some f)) 610 g (some f2), mJ S, mN S, eI S, eJ S, eR S, mZ S, mQ S) = _
  rw [e]
  rfl
theorem fgS_2 {S : MM} {g f t t2 : Nat} : sI (fgS S g f t) 611 g (nI t2) = fgS S g f t2 := by rw [fgS, sI_sI]; rfl
theorem fgS_id {S : MM} {g f t : Nat} (h1 : mR S 610 g = some f) (h2 : mI S 611 g = nI t) : fgS S g f t = S := by
  have e1 : up2 (mR S) 610 g (some f) = mR S := by
    funext i b
    show (if i = 610 ∧ b = g then _ else _) = _
    split
    · rename_i z; rw [z.1, z.2, h1]
    · rfl
  have e2 : up2 (mI S) 611 g (nI t) = mI S := by
    funext i b
    show (if i = 611 ∧ b = g then _ else _) = _
    split
    · rename_i z; rw [z.1, z.2, h2]
    · rfl
  show (mL S, mK S, up2 (mI S) 611 g (nI t), up2 (mR S) 610 g (some f), mJ S, mN S, eI S, eJ S, eR S, mZ S, mQ S) = _
  rw [e1, e2]
  rfl
def I_sn1 (g i rt : Nat) (O : List Nat) (S : MM) (t : Nat) : KT := fun lo st S1 cs sl => ∃ A B f, t = 1000000 + A.length ∧ O = A ++ B ∧ (f = A.getLastD rt ∨ i < seenC S A) ∧ lo = [(2, .inr (.inr (some (A.getLastD rt)))), (1, .inl (nI i)), (0, .inr (.inr (some g)))] ∧ st = [] ∧ S1 = fgS S g f (seenC S A) ∧ isO S 5 f ∧ cs = 0 ∧ sl = 0
def I_sn2 (g i rt : Nat) (O : List Nat) (S : MM) (t : Nat) : KT := fun lo st S1 cs sl => ∃ A B, t = B.length ∧ O = A ++ B ∧ seenC S A ≤ i ∧ lo = [(2, .inr (.inr B.head?)), (1, .inl (nI i)), (0, .inr (.inr (some g)))] ∧ st = [] ∧ S1 = fgS S g (A.getLastD rt) (seenC S A) ∧ cs = 0 ∧ sl = 0
/-- the node of an index -/
def ndP (S S' : MM) (g i : Nat) (O : List Nat) (v : Option Nat) : Prop := ∃ A y B, v = some y ∧ O = A ++ y :: B ∧ mI S 513 y = 1 ∧ seenC S A = i ∧ S' = fgS S g y (i + 1)
def T_gsn : TR := fun Rc Rs av S cs sl K _Kx => match av with
  | [.inr (.inr g_o), .inl i_v] => pa g_o fun g => (∃ (i : Nat), i_v = nI i ∧ (∃ (rt f : Nat) (O A B : List Nat), (isO S 6 g ∧ mR S 600 g = some rt ∧ ChP S rt O ∧ O.length ≤ 100000 ∧ O = A ++ B ∧ mR S 610 g = some (A.getLastD rt) ∧ mI S 611 g = nI (seenC S A) ∧ i < seenC S O) ∧ cs ≤ Rc ∧ sl ≤ Rs ∧ (∀ (v : Option Nat) (S' : MM), (ndP S S' g i O v) → K (some (.inr (.inr v))) S' cs sl)))
  | _ => False
def sp_gsn (g : Nat) (i : Nat) (rt f : Nat) (O A B : List Nat) : Sp := (fun av S => av = [.inr (.inr (some g)), .inl (nI i)] ∧ (isO S 6 g ∧ mR S 600 g = some rt ∧ ChP S rt O ∧ O.length ≤ 100000 ∧ O = A ++ B ∧ mR S 610 g = some (A.getLastD rt) ∧ mI S 611 g = nI (seenC S A) ∧ i < seenC S O), fun _ S => 0, fun _ S => 0, fun _ S rv S' => ∃ v, rv = (some (.inr (.inr v))) ∧ (ndP S S' g i O v), fun _ _ _ _ => False)
def tX5_shownNode : CD := [(0, .iload_n 1), (1, .aload_n 0), (2, .getfield 62), (5, .iload_n 1), (6, .isub), (7, .if_icmp .ge 16), (10, .aload_n 0), (11, .aload_n 0), (12, .getfield 19), (15, .putfield 59), (18, .aload_n 0), (19, .iconst 0), (20, .putfield 62), (23, .aload_n 0), (24, .getfield 59), (27, .astore_n 2), (28, .aload_n 2), (29, .ifnull 66), (32, .iload_n 1), (33, .aload_n 0), (34, .getfield 62), (37, .if_icmp .ge 58), (40, .aload_n 0), (41, .aload_n 2), (42, .putfield 59), (45, .aload_n 2), (46, .getfield 138), (49, .iconst 1), (50, .if_icmp .ne 15), (53, .aload_n 0), (54, .getfield 62), (57, .iconst 1), (58, .isub), (59, .iload_n 1), (60, .if_icmp .ne 5), (63, .aload_n 2), (64, .areturn), (65, .aload_n 0), (66, .dup), (67, .getfield 62), (70, .aload_n 2), (71, .getfield 138), (74, .iconst 1), (75, .if_icmp .ne 7), (78, .iconst 1), (79, .goto 4), (82, .iconst 0), (83, .isub), (84, .putfield 62), (87, .aload_n 2), (88, .getfield 144), (91, .astore_n 2), (92, .goto (-64)), (95, .aload_n 0), (96, .getfield 59), (99, .getfield 147), (102, .astore_n 2), (103, .aload_n 2), (104, .ifnull 50), (107, .aload_n 0), (108, .aload_n 2), (109, .putfield 59), (112, .aload_n 0), (113, .dup), (114, .getfield 62), (117, .aload_n 2), (118, .getfield 138), (121, .iconst 1), (122, .if_icmp .ne 7), (125, .iconst 1), (126, .goto 4), (129, .iconst 0), (130, .iadd), (131, .putfield 62), (134, .aload_n 0), (135, .getfield 62), (138, .iload_n 1), (139, .iconst 1), (140, .iadd), (141, .if_icmp .ne 5), (144, .aload_n 2), (145, .areturn), (146, .aload_n 2), (147, .getfield 147), (150, .astore_n 2), (151, .goto (-48)), (154, .aload_n 0), (155, .getfield 19), (158, .areturn)]
set_option maxRecDepth 100000 in
theorem kX5_shownNode : chk cX5_shownNode tX5_shownNode = true := by decide +kernel

set_option maxRecDepth 100000 in
set_option maxHeartbeats 2000000 in
theorem c_gsn (l : Launch) : ∀ (g : Nat) (i : Nat) (rt f : Nat) (O A B : List Nat), Ct l yX5_shownNode cX5_shownNode 3 (some (.object "WeaveText$Event")) 0 0 (sp_gsn g i rt f O A B) := by
  intro g i rt f O A B
  refine Ct.of (fX5, nX5, aX5, iX5, lX5, [], qX5, gX5, []) false tX5_shownNode (fun _ S => look [(28, ([2,1,0], I_sn1 g i rt O S)), (103, ([2,1,0], I_sn2 g i rt O S))]) (by decide) (by decide) kX5_shownNode ⟨_, _, rfl⟩ fX5_ok nX5_ok aX5_ok iX5_ok lX5_ok (fun _ _ _ _ _ _ _ _ _ _ _ _ _ _ _ _ _ _ => no_all) qX5_ok gX5_ok rfl ?_ ?_
  · rintro _ S ⟨rfl, hp⟩
    refine ⟨Nat.le_of_ble_eq_true rfl, 300, ?_⟩
    show (isO S 6 g ∧ ((((mI S 611 g) - (nI i)) ≤ (nI i) → (isO S 6 g ∧ (∃ k1, I_sn1 g i rt O S k1 [(2, .inr (.inr (mR S 610 g))), (1, .inl (nI i)), (0, .inr (.inr (some g)))] [] S 0 0))) ∧ (¬ ((mI S 611 g) - (nI i)) ≤ (nI i) → (isO S 6 g ∧ (True ∧ (isO S 6 g ∧ (True ∧ (isO (sR S 610 g (mR S 600 g)) 6 g ∧ (isO (sI (sR S 610 g (mR S 600 g)) 611 g (0 : Int32)) 6 g ∧ (∃ k1, I_sn1 g i rt O S k1 [(2, .inr (.inr (mR (sI (sR S 610 g (mR S 600 g)) 611 g (0 : Int32)) 610 g))), (1, .inl (nI i)), (0, .inr (.inr (some g)))] [] (sI (sR S 610 g (mR S 600 g)) 611 g (0 : Int32)) 0 0))))))))))
    obtain ⟨h1, h2, hC, h4, h5, h6, h7, h8⟩ := hp
    rw [h2]
    refine ⟨h1, fun _ => ⟨h1, 1000000 + A.length, A, B, A.getLastD rt, rfl, h5, Or.inl rfl, by rw [h6], rfl, (fgS_id h6 h7).symm, hC.in h5, rfl, rfl⟩, fun _ => ⟨h1, trivial, h1, trivial, h1, h1, 1000000 + ([] : List Nat).length, [], O, rt, rfl, rfl, Or.inl rfl, ?_, rfl, rfl, hC.1, rfl, rfl⟩⟩
    rw [show mR (sI (sR S 610 g (some rt)) 611 g (0 : Int32)) 610 g = some rt from fgS_610 (S := S) (g := g) (f := rt) (t := 0)]
    rfl
  · intro av S hpre pc I hI k lo st S1 cs sl h
    obtain ⟨rfl, hp⟩ := hpre
    have hm := look_in hI
    simp only [List.mem_cons, List.not_mem_nil, or_false] at hm
    rcases hm with hm | hm
    · cases hm
      obtain ⟨A1, B1, f1, rfl, hO, hfi, rfl, rfl, rfl, hf5, rfl, rfl⟩ := h
      refine ⟨300, ?_⟩
      show (((some (A1.getLastD rt)) = none → (isO (fgS S g f1 (seenC S A1)) 6 g ∧ (pa (mR (fgS S g f1 (seenC S A1)) 610 g) fun a_2 => isO (fgS S g f1 (seenC S A1)) 5 a_2 ∧ (∃ k1, k1 < (1000000 + A1.length) ∧ I_sn2 g i rt O S k1 [(2, .inr (.inr (mR (fgS S g f1 (seenC S A1)) 512 a_2))), (1, .inl (nI i)), (0, .inr (.inr (some g)))] [] (fgS S g f1 (seenC S A1)) 0 0)))) ∧ (∀ w_1, (some (A1.getLastD rt)) = some w_1 → (isO (fgS S g f1 (seenC S A1)) 6 g ∧ (((mI (fgS S g f1 (seenC S A1)) 611 g) ≤ (nI i) → (isO (fgS S g f1 (seenC S A1)) 6 g ∧ (pa (mR (fgS S g f1 (seenC S A1)) 610 g) fun a_3 => isO (fgS S g f1 (seenC S A1)) 5 a_3 ∧ (∃ k1, k1 < (1000000 + A1.length) ∧ I_sn2 g i rt O S k1 [(2, .inr (.inr (mR (fgS S g f1 (seenC S A1)) 512 a_3))), (1, .inl (nI i)), (0, .inr (.inr (some g)))] [] (fgS S g f1 (seenC S A1)) 0 0)))) ∧ (¬ (mI (fgS S g f1 (seenC S A1)) 611 g) ≤ (nI i) → (True ∧ (isO (fgS S g f1 (seenC S A1)) 6 g ∧ (isO (sR (fgS S g f1 (seenC S A1)) 610 g (some (A1.getLastD rt))) 5 (A1.getLastD rt) ∧ ((¬ (mI (sR (fgS S g f1 (seenC S A1)) 610 g (some (A1.getLastD rt))) 513 (A1.getLastD rt)) = (1 : Int32) → (isO (sR (fgS S g f1 (seenC S A1)) 610 g (some (A1.getLastD rt))) 6 g ∧ (isO (sR (fgS S g f1 (seenC S A1)) 610 g (some (A1.getLastD rt))) 5 (A1.getLastD rt) ∧ ((¬ (mI (sR (fgS S g f1 (seenC S A1)) 610 g (some (A1.getLastD rt))) 513 (A1.getLastD rt)) = (1 : Int32) → (True ∧ (isO (sR (fgS S g f1 (seenC S A1)) 610 g (some (A1.getLastD rt))) 6 g ∧ (isO (sI (sR (fgS S g f1 (seenC S A1)) 610 g (some (A1.getLastD rt))) 611 g ((mI (sR (fgS S g f1 (seenC S A1)) 610 g (some (A1.getLastD rt))) 611 g) - (0 : Int32))) 5 (A1.getLastD rt) ∧ (∃ k1, k1 < (1000000 + A1.length) ∧ I_sn1 g i rt O S k1 [(2, .inr (.inr (mR (sI (sR (fgS S g f1 (seenC S A1)) 610 g (some (A1.getLastD rt))) 611 g ((mI (sR (fgS S g f1 (seenC S A1)) 610 g (some (A1.getLastD rt))) 611 g) - (0 : Int32))) 511 (A1.getLastD rt)))), (1, .inl (nI i)), (0, .inr (.inr (some g)))] [] (sI (sR (fgS S g f1 (seenC S A1)) 610 g (some (A1.getLastD rt))) 611 g ((mI (sR (fgS S g f1 (seenC S A1)) 610 g (some (A1.getLastD rt))) 611 g) - (0 : Int32))) 0 0))))) ∧ ((mI (sR (fgS S g f1 (seenC S A1)) 610 g (some (A1.getLastD rt))) 513 (A1.getLastD rt)) = (1 : Int32) → (True ∧ (isO (sR (fgS S g f1 (seenC S A1)) 610 g (some (A1.getLastD rt))) 6 g ∧ (isO (sI (sR (fgS S g f1 (seenC S A1)) 610 g (some (A1.getLastD rt))) 611 g ((mI (sR (fgS S g f1 (seenC S A1)) 610 g (some (A1.getLastD rt))) 611 g) - (1 : Int32))) 5 (A1.getLastD rt) ∧ (∃ k1, k1 < (1000000 + A1.length) ∧ I_sn1 g i rt O S k1 [(2, .inr (.inr (mR (sI (sR (fgS S g f1 (seenC S A1)) 610 g (some (A1.getLastD rt))) 611 g ((mI (sR (fgS S g f1 (seenC S A1)) 610 g (some (A1.getLastD rt))) 611 g) - (1 : Int32))) 511 (A1.getLastD rt)))), (1, .inl (nI i)), (0, .inr (.inr (some g)))] [] (sI (sR (fgS S g f1 (seenC S A1)) 610 g (some (A1.getLastD rt))) 611 g ((mI (sR (fgS S g f1 (seenC S A1)) 610 g (some (A1.getLastD rt))) 611 g) - (1 : Int32))) 0 0))))))))) ∧ ((mI (sR (fgS S g f1 (seenC S A1)) 610 g (some (A1.getLastD rt))) 513 (A1.getLastD rt)) = (1 : Int32) → (isO (sR (fgS S g f1 (seenC S A1)) 610 g (some (A1.getLastD rt))) 6 g ∧ ((¬ ((mI (sR (fgS S g f1 (seenC S A1)) 610 g (some (A1.getLastD rt))) 611 g) - (1 : Int32)) = (nI i) → (isO (sR (fgS S g f1 (seenC S A1)) 610 g (some (A1.getLastD rt))) 6 g ∧ (isO (sR (fgS S g f1 (seenC S A1)) 610 g (some (A1.getLastD rt))) 5 (A1.getLastD rt) ∧ ((¬ (mI (sR (fgS S g f1 (seenC S A1)) 610 g (some (A1.getLastD rt))) 513 (A1.getLastD rt)) = (1 : Int32) → (True ∧ (isO (sR (fgS S g f1 (seenC S A1)) 610 g (some (A1.getLastD rt))) 6 g ∧ (isO (sI (sR (fgS S g f1 (seenC S A1)) 610 g (some (A1.getLastD rt))) 611 g ((mI (sR (fgS S g f1 (seenC S A1)) 610 g (some (A1.getLastD rt))) 611 g) - (0 : Int32))) 5 (A1.getLastD rt) ∧ (∃ k1, k1 < (1000000 + A1.length) ∧ I_sn1 g i rt O S k1 [(2, .inr (.inr (mR (sI (sR (fgS S g f1 (seenC S A1)) 610 g (some (A1.getLastD rt))) 611 g ((mI (sR (fgS S g f1 (seenC S A1)) 610 g (some (A1.getLastD rt))) 611 g) - (0 : Int32))) 511 (A1.getLastD rt)))), (1, .inl (nI i)), (0, .inr (.inr (some g)))] [] (sI (sR (fgS S g f1 (seenC S A1)) 610 g (some (A1.getLastD rt))) 611 g ((mI (sR (fgS S g f1 (seenC S A1)) 610 g (some (A1.getLastD rt))) 611 g) - (0 : Int32))) 0 0))))) ∧ ((mI (sR (fgS S g f1 (seenC S A1)) 610 g (some (A1.getLastD rt))) 513 (A1.getLastD rt)) = (1 : Int32) → (True ∧ (isO (sR (fgS S g f1 (seenC S A1)) 610 g (some (A1.getLastD rt))) 6 g ∧ (isO (sI (sR (fgS S g f1 (seenC S A1)) 610 g (some (A1.getLastD rt))) 611 g ((mI (sR (fgS S g f1 (seenC S A1)) 610 g (some (A1.getLastD rt))) 611 g) - (1 : Int32))) 5 (A1.getLastD rt) ∧ (∃ k1, k1 < (1000000 + A1.length) ∧ I_sn1 g i rt O S k1 [(2, .inr (.inr (mR (sI (sR (fgS S g f1 (seenC S A1)) 610 g (some (A1.getLastD rt))) 611 g ((mI (sR (fgS S g f1 (seenC S A1)) 610 g (some (A1.getLastD rt))) 611 g) - (1 : Int32))) 511 (A1.getLastD rt)))), (1, .inl (nI i)), (0, .inr (.inr (some g)))] [] (sI (sR (fgS S g f1 (seenC S A1)) 610 g (some (A1.getLastD rt))) 611 g ((mI (sR (fgS S g f1 (seenC S A1)) 610 g (some (A1.getLastD rt))) 611 g) - (1 : Int32))) 0 0))))))))) ∧ (((mI (sR (fgS S g f1 (seenC S A1)) 610 g (some (A1.getLastD rt))) 611 g) - (1 : Int32)) = (nI i) → (([] : List MV) = [] ∧ mret (some (.object "WeaveText$Event")) (sp_gsn g i rt f O A B) [.inr (.inr (some g)), .inl (nI i)] S (some (.inr (.inr (some (A1.getLastD rt))))) (sR (fgS S g f1 (seenC S A1)) 610 g (some (A1.getLastD rt))) 0 0))))))))))))))
      obtain ⟨h1, h2, hC, h4, h5, h6, h7, h8⟩ := hp
      have g6 : ∀ f t, isO (fgS S g f t) 6 g := fun f t => (fgS_keep S g f t).isO h1
      have hle := seenC_le S A1
      have hlen : A1.length + B1.length = O.length := by rw [hO, List.length_append]
      have hcO : seenC S O ≤ O.length := seenC_le S O
      refine ⟨(fun z => by cases z), fun w _ => ⟨g6 _ _, ?_⟩⟩
      rw [fgS_611, fgS_610]
      refine if_le (by omega) (by omega) (fun z => ?_) (fun z => ?_)
      · have hf : f1 = A1.getLastD rt := hfi.resolve_right (by omega)
        subst hf
        refine ⟨g6 _ _, (fgS_keep S g _ _).isO hf5, B1.length, by omega, A1, B1, rfl, hO, z, ?_, rfl, rfl, rfl, rfl⟩
        rw [fgS_R (by decide), hC.2.2.1 A1 B1 hO]
      · rcases snoc_cases A1 with e | ⟨A2, y, e⟩
        · subst e
          exact absurd z (Nat.not_lt_zero _)
        · subst e
          rw [List.getLastD_concat] at hfi ⊢
          have hO2 : O = A2 ++ y :: B1 := by rw [hO]; simp
          have y5 : isO S 5 y := hC.2.1 y (by rw [hO2]; simp)
          have y5' : ∀ f t, isO (fgS S g f t) 5 y := fun f t => (fgS_keep S g f t).isO y5
          have hct : seenC S (A2 ++ [y]) = seenC S A2 + (if mI S 513 y = 1 then 1 else 0) := by rw [seenC_app]; rfl
          have hprev := hC.2.2.2 A2 y B1 hO2
          have hl2 : (A2 ++ [y]).length = A2.length + 1 := by simp
          rw [fgS_1, fgS_I (i := 513) (by decide), fgS_611]
          refine ⟨trivial, g6 _ _, y5' _ _, fun q => ⟨g6 _ _, y5' _ _, fun q2 => ?_, fun q2 => absurd q2 q⟩, fun q => ⟨g6 _ _, fun q2 => ⟨g6 _ _, y5' _ _, fun q3 => absurd q q3, fun q3 => ?_⟩, fun q2 => ?_⟩⟩
          · rw [if_neg q, Nat.add_zero] at hct
            rw [Int32.sub_zero, fgS_2, fgS_R (by decide), hprev, hct]
            refine ⟨trivial, g6 _ _, y5' _ _, 1000000 + A2.length, by omega, A2, y :: B1, y, rfl, hO2, Or.inr (by omega), rfl, rfl, rfl, y5, rfl, rfl⟩
          · rw [if_pos q] at hct
            rw [show nI (seenC S (A2 ++ [y])) - (1 : Int32) = nI (seenC S A2) by rw [hct]; exact pk_sub (a := seenC S A2 + 1) (b := 1) (by omega)] at q2 ⊢
            have hne : seenC S A2 ≠ i := fun u => q2 (by rw [u])
            rw [fgS_2, fgS_R (by decide), hprev]
            exact ⟨trivial, g6 _ _, y5' _ _, 1000000 + A2.length, by omega, A2, y :: B1, y, rfl, hO2, Or.inr (by omega), rfl, rfl, rfl, y5, rfl, rfl⟩
          · rw [if_pos q] at hct
            rw [show nI (seenC S (A2 ++ [y])) - (1 : Int32) = nI (seenC S A2) by rw [hct]; exact pk_sub (a := seenC S A2 + 1) (b := 1) (by omega)] at q2
            have hi : seenC S A2 = i := (nI_eq (by omega) (by omega)).1 q2
            refine ⟨rfl, trivial, ⟨_, rfl, A2, y, B1, rfl, hO2, q, hi, ?_⟩, Nat.le_refl _, Nat.le_refl _⟩
            rw [hct, hi]
    · cases hm
      obtain ⟨A1, B1, rfl, hO, hti, rfl, rfl, rfl, rfl, rfl⟩ := h
      refine ⟨300, ?_⟩
      show (((B1.head?) = none → (isO (fgS S g (A1.getLastD rt) (seenC S A1)) 6 g ∧ (([] : List MV) = [] ∧ mret (some (.object "WeaveText$Event")) (sp_gsn g i rt f O A B) [.inr (.inr (some g)), .inl (nI i)] S (some (.inr (.inr (mR (fgS S g (A1.getLastD rt) (seenC S A1)) 600 g)))) (fgS S g (A1.getLastD rt) (seenC S A1)) 0 0))) ∧ (∀ w_1, (B1.head?) = some w_1 → (True ∧ (isO (fgS S g (A1.getLastD rt) (seenC S A1)) 6 g ∧ (isO (sR (fgS S g (A1.getLastD rt) (seenC S A1)) 610 g (B1.head?)) 6 g ∧ (pa (B1.head?) fun a_2 => isO (sR (fgS S g (A1.getLastD rt) (seenC S A1)) 610 g (B1.head?)) 5 a_2 ∧ ((¬ (mI (sR (fgS S g (A1.getLastD rt) (seenC S A1)) 610 g (B1.head?)) 513 a_2) = (1 : Int32) → (True ∧ (isO (sR (fgS S g (A1.getLastD rt) (seenC S A1)) 610 g (B1.head?)) 6 g ∧ (isO (sI (sR (fgS S g (A1.getLastD rt) (seenC S A1)) 610 g (B1.head?)) 611 g ((mI (sR (fgS S g (A1.getLastD rt) (seenC S A1)) 610 g (B1.head?)) 611 g) + (0 : Int32))) 6 g ∧ ((¬ (mI (sI (sR (fgS S g (A1.getLastD rt) (seenC S A1)) 610 g (B1.head?)) 611 g ((mI (sR (fgS S g (A1.getLastD rt) (seenC S A1)) 610 g (B1.head?)) 611 g) + (0 : Int32))) 611 g) = ((nI i) + (1 : Int32)) → (pa (B1.head?) fun a_3 => isO (sI (sR (fgS S g (A1.getLastD rt) (seenC S A1)) 610 g (B1.head?)) 611 g ((mI (sR (fgS S g (A1.getLastD rt) (seenC S A1)) 610 g (B1.head?)) 611 g) + (0 : Int32))) 5 a_3 ∧ (∃ k1, k1 < B1.length ∧ I_sn2 g i rt O S k1 [(2, .inr (.inr (mR (sI (sR (fgS S g (A1.getLastD rt) (seenC S A1)) 610 g (B1.head?)) 611 g ((mI (sR (fgS S g (A1.getLastD rt) (seenC S A1)) 610 g (B1.head?)) 611 g) + (0 : Int32))) 512 a_3))), (1, .inl (nI i)), (0, .inr (.inr (some g)))] [] (sI (sR (fgS S g (A1.getLastD rt) (seenC S A1)) 610 g (B1.head?)) 611 g ((mI (sR (fgS S g (A1.getLastD rt) (seenC S A1)) 610 g (B1.head?)) 611 g) + (0 : Int32))) 0 0))) ∧ ((mI (sI (sR (fgS S g (A1.getLastD rt) (seenC S A1)) 610 g (B1.head?)) 611 g ((mI (sR (fgS S g (A1.getLastD rt) (seenC S A1)) 610 g (B1.head?)) 611 g) + (0 : Int32))) 611 g) = ((nI i) + (1 : Int32)) → (([] : List MV) = [] ∧ mret (some (.object "WeaveText$Event")) (sp_gsn g i rt f O A B) [.inr (.inr (some g)), .inl (nI i)] S (some (.inr (.inr (B1.head?)))) (sI (sR (fgS S g (A1.getLastD rt) (seenC S A1)) 610 g (B1.head?)) 611 g ((mI (sR (fgS S g (A1.getLastD rt) (seenC S A1)) 610 g (B1.head?)) 611 g) + (0 : Int32))) 0 0))))))) ∧ ((mI (sR (fgS S g (A1.getLastD rt) (seenC S A1)) 610 g (B1.head?)) 513 a_2) = (1 : Int32) → (True ∧ (isO (sR (fgS S g (A1.getLastD rt) (seenC S A1)) 610 g (B1.head?)) 6 g ∧ (isO (sI (sR (fgS S g (A1.getLastD rt) (seenC S A1)) 610 g (B1.head?)) 611 g ((mI (sR (fgS S g (A1.getLastD rt) (seenC S A1)) 610 g (B1.head?)) 611 g) + (1 : Int32))) 6 g ∧ ((¬ (mI (sI (sR (fgS S g (A1.getLastD rt) (seenC S A1)) 610 g (B1.head?)) 611 g ((mI (sR (fgS S g (A1.getLastD rt) (seenC S A1)) 610 g (B1.head?)) 611 g) + (1 : Int32))) 611 g) = ((nI i) + (1 : Int32)) → (pa (B1.head?) fun a_4 => isO (sI (sR (fgS S g (A1.getLastD rt) (seenC S A1)) 610 g (B1.head?)) 611 g ((mI (sR (fgS S g (A1.getLastD rt) (seenC S A1)) 610 g (B1.head?)) 611 g) + (1 : Int32))) 5 a_4 ∧ (∃ k1, k1 < B1.length ∧ I_sn2 g i rt O S k1 [(2, .inr (.inr (mR (sI (sR (fgS S g (A1.getLastD rt) (seenC S A1)) 610 g (B1.head?)) 611 g ((mI (sR (fgS S g (A1.getLastD rt) (seenC S A1)) 610 g (B1.head?)) 611 g) + (1 : Int32))) 512 a_4))), (1, .inl (nI i)), (0, .inr (.inr (some g)))] [] (sI (sR (fgS S g (A1.getLastD rt) (seenC S A1)) 610 g (B1.head?)) 611 g ((mI (sR (fgS S g (A1.getLastD rt) (seenC S A1)) 610 g (B1.head?)) 611 g) + (1 : Int32))) 0 0))) ∧ ((mI (sI (sR (fgS S g (A1.getLastD rt) (seenC S A1)) 610 g (B1.head?)) 611 g ((mI (sR (fgS S g (A1.getLastD rt) (seenC S A1)) 610 g (B1.head?)) 611 g) + (1 : Int32))) 611 g) = ((nI i) + (1 : Int32)) → (([] : List MV) = [] ∧ mret (some (.object "WeaveText$Event")) (sp_gsn g i rt f O A B) [.inr (.inr (some g)), .inl (nI i)] S (some (.inr (.inr (B1.head?)))) (sI (sR (fgS S g (A1.getLastD rt) (seenC S A1)) 610 g (B1.head?)) 611 g ((mI (sR (fgS S g (A1.getLastD rt) (seenC S A1)) 610 g (B1.head?)) 611 g) + (1 : Int32))) 0 0))))))))))))))
      obtain ⟨h1, h2, hC, h4, h5, h6, h7, h8⟩ := hp
      have g6 : ∀ f t, isO (fgS S g f t) 6 g := fun f t => (fgS_keep S g f t).isO h1
      have hlen : A1.length + B1.length = O.length := by rw [hO, List.length_append]
      have hle := seenC_le S A1
      have hcO : seenC S O ≤ O.length := seenC_le S O
      cases B1 with
      | nil =>
        rw [List.append_nil] at hO
        rw [hO] at h8
        omega
      | cons y B2 =>
        rw [List.head?_cons]
        have hO2 : O = (A1 ++ [y]) ++ B2 := by rw [hO]; simp
        have y5 : isO S 5 y := hC.2.1 y (by rw [hO]; simp)
        have y5' : ∀ f t, isO (fgS S g f t) 5 y := fun f t => (fgS_keep S g f t).isO y5
        have hnx : mR S 512 y = B2.head? := by
          have := hC.2.2.1 (A1 ++ [y]) B2 hO2
          rw [List.getLastD_concat] at this
          exact this
        have hct : seenC S (A1 ++ [y]) = seenC S A1 + (if mI S 513 y = 1 then 1 else 0) := by rw [seenC_app]; rfl
        rw [List.length_cons] at hlen
        rw [fgS_1, fgS_611, nI_1 i]
        refine ⟨(fun z => by cases z), fun w _ => ⟨trivial, g6 _ _, g6 _ _, y5' _ _, ?_⟩⟩
        rw [fgS_I (i := 513) (by decide)]
        refine ⟨fun q => ?_, fun q => ?_⟩
        · rw [if_neg q, Nat.add_zero] at hct
          rw [Int32.add_zero, fgS_2, fgS_611]
          refine ⟨trivial, g6 _ _, g6 _ _, fun u => ⟨y5' _ _, B2.length, by simp, A1 ++ [y], B2, rfl, hO2, by omega, ?_, rfl, ?_, rfl, rfl⟩, fun u => ?_⟩
          · rw [fgS_R (by decide), hnx]
          · rw [List.getLastD_concat, hct]
          · have := (nI_eq (by omega) (by omega)).1 u
            omega
        · rw [if_pos q] at hct
          rw [nI_1 (seenC S A1), fgS_2, fgS_611]
          refine ⟨trivial, g6 _ _, g6 _ _, fun u => ⟨y5' _ _, B2.length, by simp, A1 ++ [y], B2, rfl, hO2, ?_, ?_, rfl, ?_, rfl, rfl⟩, fun u => ⟨rfl, trivial, ⟨_, rfl, A1, y, B2, rfl, hO, q, ?_, ?_⟩, Nat.le_refl _, Nat.le_refl _⟩⟩
          · have : seenC S A1 + 1 ≠ i + 1 := fun v => u (by rw [v])
            omega
          · rw [fgS_R (by decide), hnx]
          · rw [List.getLastD_concat, hct]
          · have := (nI_eq (by omega) (by omega)).1 u
            omega
          · rw [(nI_eq (by omega) (by omega)).1 u]
theorem u_gsn (l : Launch) : Us l yX5_shownNode cX5_shownNode 3 (some (.object "WeaveText$Event")) 0 0 6 T_gsn := by
  intro Rc Rs av S cs sl K Kx h
  unfold T_gsn at h
  split at h
  · rename_i g_o i_v
    obtain ⟨g, rfl, h_1⟩ := pa_of h
    obtain ⟨i, rfl, h_2⟩ := h_1
    obtain ⟨rt, f, O, A, B, hp, hc, hs, hk⟩ := h_2
    refine ⟨(sp_gsn g i rt f O A B), c_gsn l g i rt f O A B, fun _ _ h9 => ⟨_, _, h9.1, h9.2.1⟩, ⟨rfl, hp⟩, hc, hs, fun v9 S' h8 => by
      obtain ⟨v8, h7, h8⟩ := h8
      cases h7
      exact hk _ _ h8, fun _ _ q => q.elim⟩
  · exact h.elim
/-- a list without an object -/
def dhP (S S' : MM) (hk d c : Nat) (L' : List Nat) : Prop := AL S' hk d c 5 L' ∧ Keep (AP S hk d c) S S'
def I_dh (g x ho d c : Nat) (L : List Nat) (S : MM) (t : Nat) : KT := fun lo st S1 cs sl => t ≤ L.length ∧ lo = [(2, .inl (nI t - 1)), (0, .inr (.inr (some g))), (1, .inr (.inr (some x)))] ∧ st = [] ∧ dhP S S1 ho d c (L.take t ++ (L.drop t).filter (fun y => decide (y ≠ x))) ∧ cs = 0 ∧ sl = 0
def T_gdh : TR := fun Rc Rs av S cs sl K _Kx => match av with
  | [.inr (.inr g_o), .inr (.inr x_o)] => pa g_o fun g => (pa x_o fun x => (∃ (ho d c : Nat) (L : List Nat), (isO S 6 g ∧ mR S 604 g = some ho ∧ AL S ho d c 5 L) ∧ cs ≤ Rc ∧ sl ≤ Rs ∧ (∀ (S' : MM), (dhP S S' ho d c (L.filter (fun y => decide (y ≠ x)))) → K none S' cs sl)))
  | _ => False
def sp_gdh (g : Nat) (x : Nat) (ho d c : Nat) (L : List Nat) : Sp := (fun av S => av = [.inr (.inr (some g)), .inr (.inr (some x))] ∧ (isO S 6 g ∧ mR S 604 g = some ho ∧ AL S ho d c 5 L), fun _ S => 0, fun _ S => 0, fun _ S rv S' => rv = none ∧ (dhP S S' ho d c (L.filter (fun y => decide (y ≠ x)))), fun _ _ _ _ => False)
def tX5_dropHead : CD := [(0, .aload_n 0), (1, .getfield 40), (4, .invokevirtual 68), (7, .iconst 1), (8, .isub), (9, .istore_n 2), (10, .iload_n 2), (11, .ifCond .lt 30), (14, .aload_n 0), (15, .getfield 40), (18, .iload_n 2), (19, .invokevirtual 76), (22, .aload_n 1), (23, .if_acmp .ne 12), (26, .aload_n 0), (27, .getfield 40), (30, .iload_n 2), (31, .invokevirtual 230), (34, .pop), (35, .iinc 2 (-1)), (38, .goto (-28)), (41, .return_)]
set_option maxRecDepth 100000 in
theorem kX5_dropHead : chk cX5_dropHead tX5_dropHead = true := by decide +kernel
theorem vX5_dropHead_68 : ∀ w ∈ ([.methodLink RX5 68 yJx4a65c_size_8abf5, .instanceMethod yJx4a65c_size_8abf5, .selects yJx4a65c_size_8abf5.cls yJx4a65c_size_8abf5 yJx4a65c_size_8abf5, .initialized yJx4a65c_size_8abf5.cls, .code yJx4a65c_size_8abf5 cJx4a65c_size_8abf5 1 (some .int)] : List Cond), w ∈ lw_good := List.forall_mem_cons.mpr ⟨mgd 672 (by decide +kernel) (by decide +kernel), List.forall_mem_cons.mpr ⟨mgd 673 (by decide +kernel) (by decide +kernel), List.forall_mem_cons.mpr ⟨mgd 674 (by decide +kernel) (by decide +kernel), List.forall_mem_cons.mpr ⟨mgd 130 (by decide +kernel) (by decide +kernel), List.forall_mem_cons.mpr ⟨mgd 675 (by decide +kernel) (by decide +kernel), fun _ h => absurd h List.not_mem_nil⟩⟩⟩⟩⟩
theorem vX5_dropHead_76 : ∀ w ∈ ([.methodLink RX5 76 yJx4a65c_get_915e3, .instanceMethod yJx4a65c_get_915e3, .selects yJx4a65c_get_915e3.cls yJx4a65c_get_915e3 yJx4a65c_get_915e3, .initialized yJx4a65c_get_915e3.cls, .code yJx4a65c_get_915e3 cJx4a65c_get_915e3 2 (some (.object "java/lang/Object"))] : List Cond), w ∈ lw_good := List.forall_mem_cons.mpr ⟨mgd 676 (by decide +kernel) (by decide +kernel), List.forall_mem_cons.mpr ⟨mgd 677 (by decide +kernel) (by decide +kernel), List.forall_mem_cons.mpr ⟨mgd 678 (by decide +kernel) (by decide +kernel), List.forall_mem_cons.mpr ⟨mgd 130 (by decide +kernel) (by decide +kernel), List.forall_mem_cons.mpr ⟨mgd 679 (by decide +kernel) (by decide +kernel), fun _ h => absurd h List.not_mem_nil⟩⟩⟩⟩⟩
theorem vX5_dropHead_230 : ∀ w ∈ ([.methodLink RX5 230 yJx4a65c_remove_915e3, .instanceMethod yJx4a65c_remove_915e3, .selects yJx4a65c_remove_915e3.cls yJx4a65c_remove_915e3 yJx4a65c_remove_915e3, .initialized yJx4a65c_remove_915e3.cls, .code yJx4a65c_remove_915e3 cJx4a65c_remove_915e3 4 (some (.object "java/lang/Object"))] : List Cond), w ∈ lw_good := List.forall_mem_cons.mpr ⟨mgd 1015 (by decide +kernel) (by decide +kernel), List.forall_mem_cons.mpr ⟨mgd 1016 (by decide +kernel) (by decide +kernel), List.forall_mem_cons.mpr ⟨mgd 1017 (by decide +kernel) (by decide +kernel), List.forall_mem_cons.mpr ⟨mgd 130 (by decide +kernel) (by decide +kernel), List.forall_mem_cons.mpr ⟨mgd 1018 (by decide +kernel) (by decide +kernel), fun _ h => absurd h List.not_mem_nil⟩⟩⟩⟩⟩
set_option maxRecDepth 100000 in
set_option maxHeartbeats 2000000 in
theorem c_gdh (l : Launch) : ∀ (g : Nat) (x : Nat) (ho d c : Nat) (L : List Nat), Ct l yX5_dropHead cX5_dropHead 3 none 3 78 (sp_gdh g x ho d c L) := by
  intro g x ho d c L
  refine Ct.of (fX5, nX5, aX5, iX5, lX5, [(68, 0, 1, 1, T_alsz), (76, 0, 2, 3, T_alget), (230, 0, 2, 3, T_alrm)], qX5, gX5, []) false tX5_dropHead (fun _ S => look [(10, ([2,0,1], I_dh g x ho d c L S))]) (by decide) (by decide) kX5_dropHead ⟨_, _, rfl⟩ fX5_ok nX5_ok aX5_ok iX5_ok lX5_ok (fun p e R s m args below meth c Q D cy z r A C hR1 hR2 => List.forall_mem_cons.mpr ⟨cOK_use (fun _ _ _ _ _ _ _ _ h => let ⟨sp, h1, h2, h3⟩ := u_alsz l _ _ _ _ _ _ _ _ h; ⟨sp, cOK_V C h1 vX5_dropHead_68 ⟨by decide, by decide, by decide +kernel⟩ ⟨by rw [hR1]; decide, by rw [hR2]; decide⟩ (k := 0) (T := TJx4a65c) (N := 3) rfl (by decide) h2, h3⟩), List.forall_mem_cons.mpr ⟨cOK_use (fun _ _ _ _ _ _ _ _ h => let ⟨sp, h1, h2, h3⟩ := u_alget l _ _ _ _ _ _ _ _ h; ⟨sp, cOK_V C h1 vX5_dropHead_76 ⟨by decide, by decide, by decide +kernel⟩ ⟨by rw [hR1]; decide, by rw [hR2]; decide⟩ (k := 0) (T := TJx4a65c) (N := 3) rfl (by decide) h2, h3⟩), List.forall_mem_cons.mpr ⟨cOK_use (fun _ _ _ _ _ _ _ _ h => let ⟨sp, h1, h2, h3⟩ := u_alrm l _ _ _ _ _ _ _ _ h; ⟨sp, cOK_V C h1 vX5_dropHead_230 ⟨by decide, by decide, by decide +kernel⟩ ⟨by rw [hR1]; decide, by rw [hR2]; decide⟩ (k := 0) (T := TJx4a65c) (N := 3) rfl (by decide) h2, h3⟩), fun _ h => absurd h List.not_mem_nil⟩⟩⟩) qX5_ok gX5_ok rfl ?_ ?_
  · rintro _ S ⟨rfl, hp⟩
    refine ⟨Nat.le_of_ble_eq_true rfl, 300, ?_⟩
    show (isO S 6 g ∧ (0 = 0 ∧ ((pa (mR S 604 g) fun a_1 => (∃ (d_2 c_3 kk_4 : Nat) (L_5 : List Nat), (AL S a_1 d_2 c_3 kk_4 L_5) ∧ 0 ≤ 0 ∧ 0 ≤ 0 ∧ ((∃ k1, I_dh g x ho d c L S k1 [(2, .inl ((nI L_5.length) - (1 : Int32))), (0, .inr (.inr (some g))), (1, .inr (.inr (some x)))] [] S 0 0)))))))
    obtain ⟨h1, h2, h3⟩ := hp
    rw [h2]
    refine ⟨h1, rfl, d, c, 5, L, h3, Nat.le_refl _, Nat.le_refl _, L.length, Nat.le_refl _, rfl, rfl, ?_, rfl, rfl⟩
    rw [List.take_length, List.drop_length, List.filter_nil, List.append_nil]
    exact ⟨h3, Keep.rf⟩
  · intro av S hpre pc I hI k lo st S1 cs sl h
    obtain ⟨rfl, hp⟩ := hpre
    have hm := look_in hI
    rw [List.mem_singleton] at hm
    cases hm
    obtain ⟨ht, rfl, rfl, hD, rfl, rfl⟩ := h
    refine ⟨300, ?_⟩
    show (((nI k - 1) < 0 → (([] : List MV) = [] ∧ mret none (sp_gdh g x ho d c L) [.inr (.inr (some g)), .inr (.inr (some x))] S none S1 0 0)) ∧ (¬ (nI k - 1) < 0 → (isO S1 6 g ∧ (0 = 0 ∧ ((pa (mR S1 604 g) fun a_1 => (∃ (i_2 : Nat), nI k - 1 = nI i_2 ∧ (∃ (d_3 c_4 kk_5 : Nat) (L_6 : List Nat), (AL S1 a_1 d_3 c_4 kk_5 L_6 ∧ i_2 < L_6.length) ∧ 0 ≤ 0 ∧ 0 ≤ 0 ∧ (((¬ (L_6[i_2]?) = (some x) → (∃ k1, k1 < k ∧ I_dh g x ho d c L S k1 [(2, .inl ((nI k - 1) + (-1 : Int32))), (0, .inr (.inr (some g))), (1, .inr (.inr (some x)))] [] S1 0 0)) ∧ ((L_6[i_2]?) = (some x) → (isO S1 6 g ∧ (0 = 0 ∧ ((pa (mR S1 604 g) fun a_8 => (∃ (i_9 : Nat), nI k - 1 = nI i_9 ∧ (∃ (d_10 c_11 kk_12 : Nat) (L_13 : List Nat), (AL S1 a_8 d_10 c_11 kk_12 L_13 ∧ i_9 < L_13.length) ∧ 0 ≤ 0 ∧ 0 ≤ 0 ∧ (∀ (S_14 : MM), (rmP S1 S_14 a_8 d_10 c_11 kk_12 (L_13.take i_9 ++ L_13.drop (i_9 + 1))) → (∃ k1, k1 < k ∧ I_dh g x ho d c L S k1 [(2, .inl ((nI k - 1) + (-1 : Int32))), (0, .inr (.inr (some g))), (1, .inr (.inr (some x)))] [] S_14 0 0)))))))))))))))))))
    obtain ⟨h1, h2, h3⟩ := hp
    obtain ⟨hA, hK⟩ := hD
    have hl := h3.2.2.2.1
    have hl2 := h3.2.2.2.2.1
    cases k with
    | zero =>
      rw [List.take_zero, List.drop_zero, List.nil_append] at hA
      exact ⟨fun _ => ⟨rfl, trivial, ⟨rfl, hA, hK⟩, Nat.le_refl _, Nat.le_refl _⟩, fun z => absurd (by decide) z⟩
    | succ k =>
      have ek : nI (k + 1) - (1 : Int32) = nI k := pk_sub (a := k + 1) (b := 1) (by omega)
      have em : nI k + (-1 : Int32) = nI k - 1 := (Int32.sub_eq_add_neg _ _).symm
      have gk : ¬ AP S ho d c g := AP.no h1 (by decide) (isO_ne h1 h3.1 (by decide))
      have g1 : isO S1 6 g := hK.isO h1
      have g2 : mR S1 604 g = some ho := by rw [(hK.2.1 g h1.1 gk).2.1]; exact h2
      have hk1 : k < L.length := by omega
      have e1 : (L.take (k + 1) ++ (L.drop (k + 1)).filter (fun y => decide (y ≠ x)))[k]? = some L[k] := by
        rw [List.getElem?_append, if_pos (by rw [List.length_take]; omega), List.getElem?_take, if_pos (by omega), List.getElem?_eq_getElem hk1]
      have hlc : k < (L.take (k + 1) ++ (L.drop (k + 1)).filter (fun y => decide (y ≠ x))).length := by rw [List.length_append, List.length_take]; omega
      have hd : L.drop k = L[k] :: L.drop (k + 1) := List.drop_eq_getElem_cons hk1
      rw [ek, em, g2]
      refine ⟨fun z => absurd z (nI_pos (by omega)), fun _ => ⟨g1, rfl, k, rfl, d, c, 5, _, ⟨hA, hlc⟩, Nat.le_refl _, Nat.le_refl _, ?_⟩⟩
      rw [e1]
      refine ⟨fun z => ⟨k, by omega, by omega, rfl, rfl, ?_, rfl, rfl⟩, fun z => ⟨g1, rfl, k, rfl, d, c, 5, _, ⟨hA, hlc⟩, Nat.le_refl _, Nat.le_refl _, fun S2 hR => ⟨k, by omega, by omega, rfl, rfl, ?_, rfl, rfl⟩⟩⟩
      · have hne : L[k] ≠ x := fun e => z (by rw [e])
        rw [hd, List.filter_cons, if_pos (decide_eq_true hne)]
        rw [List.take_succ_eq_append_getElem hk1, List.append_assoc] at hA
        exact ⟨hA, hK⟩
      · have he : L[k] = x := Option.some.inj z
        rw [hd, List.filter_cons, if_neg (fun q => (of_decide_eq_true q) he)]
        obtain ⟨r1, r2⟩ := hR
        have e9 : (L.take (k + 1) ++ (L.drop (k + 1)).filter (fun y => decide (y ≠ x))).take k ++ (L.take (k + 1) ++ (L.drop (k + 1)).filter (fun y => decide (y ≠ x))).drop (k + 1) = L.take k ++ (L.drop (k + 1)).filter (fun y => decide (y ≠ x)) := by
          have hlt : (L.take (k + 1)).length = k + 1 := by rw [List.length_take]; omega
          rw [List.take_append_of_le_length (by omega), List.take_take, Nat.min_eq_left (by omega), List.drop_append_of_le_length (by omega), List.drop_of_length_le (by omega), List.nil_append]
        rw [e9] at r1
        exact ⟨r1, AP.tr hK r2 (Or.inl rfl)⟩
theorem u_gdh (l : Launch) : Us l yX5_dropHead cX5_dropHead 3 none 3 78 6 T_gdh := by
  intro Rc Rs av S cs sl K Kx h
  unfold T_gdh at h
  split at h
  · rename_i g_o x_o
    obtain ⟨g, rfl, h_1⟩ := pa_of h
    obtain ⟨x, rfl, h_2⟩ := pa_of h_1
    obtain ⟨ho, d, c, L, hp, hc, hs, hk⟩ := h_2
    refine ⟨(sp_gdh g x ho d c L), c_gdh l g x ho d c L, fun _ _ h9 => ⟨_, _, h9.1, h9.2.1⟩, ⟨rfl, hp⟩, hc, hs, fun S' h8 => by
      obtain ⟨-, h8⟩ := h8
      exact hk _ h8, fun _ _ q => q.elim⟩
  · exact h.elim
