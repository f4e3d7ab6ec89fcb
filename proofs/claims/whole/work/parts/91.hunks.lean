/-! ===== Arrays.copyOf of ints ===== -/
def cpI (S : MM) (a q n : Nat) : MM := rI (nA S q 17 n) q (fun k => if k < mN S a then eI S a k else 0)
def T_cpi : TR := fun Rc Rs av S cs sl K _Kx => match av with
  | [.inr (.inr a_o), .inl n_v] => pa a_o fun a => (∃ (n : Nat), n_v = nI n ∧ ((isO S 17 a ∧ mN S a < n ∧ n ≤ 60000000) ∧ cs + 1 ≤ Rc ∧ sl + n ≤ Rs ∧ (∀ (v : Option Nat) (S' : MM), (∃ q, q ∉ mL S ∧ v = some q ∧ S' = cpI S a q n) → K (some (.inr (.inr v))) S' (cs + 1) (sl + n))))
  | _ => False
def sp_cpi (a : Nat) (n : Nat)  : Sp := (fun av S => av = [.inr (.inr (some a)), .inl (nI n)] ∧ (isO S 17 a ∧ mN S a < n ∧ n ≤ 60000000), fun _ S => 1, fun _ S => n, fun _ S rv S' => ∃ v, rv = (some (.inr (.inr v))) ∧ (∃ q, q ∉ mL S ∧ v = some q ∧ S' = cpI S a q n), fun _ _ _ _ => False)
def tJ7_copyOf_59c91 : CD := [(0, .iload_n 1), (1, .aload_n 0), (2, .arraylength), (3, .if_icmp .ne 11), (6, .aload_n 0), (7, .invokevirtual 316), (10, .checkcast 317), (13, .areturn), (14, .iload_n 1), (15, .newarray .int), (17, .astore_n 2), (18, .aload_n 0), (19, .iconst 0), (20, .aload_n 2), (21, .iconst 0), (22, .aload_n 0), (23, .arraylength), (24, .iload_n 1), (25, .invokestatic 304), (28, .invokestatic 150), (31, .aload_n 2), (32, .areturn)]
set_option maxRecDepth 100000 in
theorem kJ7_copyOf_59c91 : chk cJ7_copyOf_59c91 tJ7_copyOf_59c91 = true := by decide +kernel
theorem vJ7_copyOf_59c91_316 : ∀ w ∈ ([.methodLink RJ7 316 ⟨"[I", "clone", "()Ljava/lang/Object;"⟩, .sameMethod "[I" "java/lang/Object" "clone" "()Ljava/lang/Object;", .native clN, .instanceMethod clN, .selects "[I" ⟨"[I", "clone", "()Ljava/lang/Object;"⟩ clN] : List Cond), w ∈ lw_good := List.forall_mem_cons.mpr ⟨mgd 1269 (by decide +kernel) (by decide +kernel), List.forall_mem_cons.mpr ⟨mgd 903 (by decide +kernel) (by decide +kernel), List.forall_mem_cons.mpr ⟨mgd 784 (by decide +kernel) (by decide +kernel), List.forall_mem_cons.mpr ⟨mgd 785 (by decide +kernel) (by decide +kernel), List.forall_mem_cons.mpr ⟨mgd 904 (by decide +kernel) (by decide +kernel), fun _ h => absurd h List.not_mem_nil⟩⟩⟩⟩⟩
theorem vJ7_copyOf_59c91_304 : ∀ w ∈ ([.methodLink RJ7 304 Lib.Math.min.name, .static Lib.Math.min.name, .initialized "java/lang/Math", .code Lib.Math.min.name Lib.Math.min.code 2 (some .int)] : List Cond), w ∈ lw_good := List.forall_mem_cons.mpr ⟨mgd 789 (by decide +kernel) (by decide +kernel), List.forall_mem_cons.mpr ⟨mgd 777 (by decide +kernel) (by decide +kernel), List.forall_mem_cons.mpr ⟨mgd 143 (by decide +kernel) (by decide +kernel), List.forall_mem_cons.mpr ⟨mgd 778 (by decide +kernel) (by decide +kernel), fun _ h => absurd h List.not_mem_nil⟩⟩⟩⟩
theorem vJ7_copyOf_59c91_150 : ∀ w ∈ ([.methodLink RJ7 150 arraycopyName, .native arraycopyName, .static arraycopyName, .initialized "java/lang/System"] : List Cond), w ∈ lw_good := List.forall_mem_cons.mpr ⟨mgd 790 (by decide +kernel) (by decide +kernel), List.forall_mem_cons.mpr ⟨mgd 792 (by decide +kernel) (by decide +kernel), List.forall_mem_cons.mpr ⟨mgd 791 (by decide +kernel) (by decide +kernel), List.forall_mem_cons.mpr ⟨mgd 144 (by decide +kernel) (by decide +kernel), fun _ h => absurd h List.not_mem_nil⟩⟩⟩⟩
set_option maxRecDepth 100000 in
set_option maxHeartbeats 2000000 in
theorem c_cpi (l : Launch) : ∀ (a : Nat) (n : Nat), Ct l yJ7_copyOf_59c91 cJ7_copyOf_59c91 3 (some (.array .int)) 1 32 (sp_cpi a n) := by
  intro a n
  refine Ct.of (fJ7, nJ7, aJ7, iJ7, lJ7, [(316, 0, 1, 3, T_clone), (304, 2, 2, 1, T_min), (150, 2, 5, 0, T_acopy)], qJ7, gJ7, []) false tJ7_copyOf_59c91 (fun _ _ _ => none) (by decide) (by decide) kJ7_copyOf_59c91 ⟨_, _, rfl⟩ fJ7_ok nJ7_ok aJ7_ok iJ7_ok lJ7_ok (fun p e R s m args below meth c Q D cy z r A C hR1 hR2 => List.forall_mem_cons.mpr ⟨cOK_use (fun _ _ _ _ _ _ _ _ h => ⟨sp_clone, cOK_clone C vJ7_copyOf_59c91_316 (mbd 905 (by decide +kernel) (by decide +kernel)) ⟨by rw [hR1]; decide, by rw [hR2]; decide⟩, T_clone_ok h⟩), List.forall_mem_cons.mpr ⟨cOK_use (fun _ _ _ _ _ _ _ _ h => ⟨sp_min, cOK_min C vJ7_copyOf_59c91_304 ⟨by rw [hR1]; decide, by rw [hR2]; decide⟩, T_min_ok h⟩), List.forall_mem_cons.mpr ⟨cOK_use (fun _ _ _ _ _ _ _ _ h => ⟨sp_acopy, cOK_acopy C vJ7_copyOf_59c91_150 ⟨by rw [hR1]; decide, by rw [hR2]; decide⟩, T_acopy_ok h⟩), fun _ h => absurd h List.not_mem_nil⟩⟩⟩) qJ7_ok gJ7_ok rfl ?_ ?_
  · rintro _ S ⟨rfl, hp⟩
    refine ⟨Nat.le_of_ble_eq_true rfl, 300, ?_⟩
    show (∃ v_1 : Int32, (a ∈ mL S ∧ ¬ mK S a < 16 ∧ mK S a < 29 ∧ v_1 = Int32.ofNat (mN S a) ∨ a = mZ S ∧ v_1 = 0) ∧ ((¬ (nI n) = v_1 → (¬ (nI n) < 0 ∧ (nI n).toNatClampNeg * 8 ≤ 536870912 ∧ 0 + 1 ≤ 1 ∧ 0 + (nI n).toNatClampNeg ≤ n ∧ ∀ q_2, q_2 ∉ mL S → (∃ v_3 : Int32, (a ∈ mL (nA S q_2 17 (nI n).toNatClampNeg) ∧ ¬ mK (nA S q_2 17 (nI n).toNatClampNeg) a < 16 ∧ mK (nA S q_2 17 (nI n).toNatClampNeg) a < 29 ∧ v_3 = Int32.ofNat (mN (nA S q_2 17 (nI n).toNatClampNeg) a) ∨ a = mZ (nA S q_2 17 (nI n).toNatClampNeg) ∧ v_3 = 0) ∧ (2 = 2 ∧ (True ∧ 0 + 1 ≤ 1 ∧ 0 + (nI n).toNatClampNeg ≤ n ∧ ((2 = 2 ∧ (∃ (k_5 : Nat), (acP (nA S q_2 17 (nI n).toNatClampNeg) a q_2 (0 : Int32) (0 : Int32) (imin v_3 (nI n)) k_5) ∧ 0 + 1 ≤ 1 ∧ 0 + (nI n).toNatClampNeg ≤ n ∧ ((([] : List MV) = [] ∧ mret (some (.array .int)) (sp_cpi a n) [.inr (.inr (some a)), .inl (nI n)] S (some (.inr (.inr (some q_2)))) (rI (nA S q_2 17 (nI n).toNatClampNeg) q_2 (va_cpy (eI (nA S q_2 17 (nI n).toNatClampNeg) a) (eI (nA S q_2 17 (nI n).toNatClampNeg) q_2) (0 : Int32).toNatClampNeg (0 : Int32).toNatClampNeg (imin v_3 (nI n)).toNatClampNeg)) (0 + 1) (0 + (nI n).toNatClampNeg))))))))))) ∧ ((nI n) = v_1 → (0 = 0 ∧ ((isO S 17 a) ∧ 0 + 1 ≤ 1 ∧ 0 + (mN S a) ≤ n ∧ (∀ (x_8 : Option Nat) (S_7 : MM), (∃ q, q ∉ mL S ∧ x_8 = some q ∧ S_7 = rI (nA S q 17 (mN S a)) q (eI S a)) → False))))))
    obtain ⟨h1, h2, h3⟩ := hp
    have ec : (nI n).toNatClampNeg = n := nI_clamp (by omega)
    have em : (nI (mN S a)).toNatClampNeg = mN S a := nI_clamp (by omega)
    have im : imin (nI (mN S a)) (nI n) = nI (mN S a) := by
      unfold imin
      exact if_neg (fun z => by have := (nI_ltI (by omega) (by omega)).1 z; omega)
    rw [ec]
    refine ⟨nI (mN S a), Or.inl ⟨h1.1, by rw [h1.2]; decide, by rw [h1.2]; decide, rfl⟩, fun _ => ⟨nI_pos (by omega), by omega, by decide, by omega, fun q hq => ?_⟩, fun z => absurd ((nI_eq (by omega) (by omega)).1 z) (by omega)⟩
    have aq : a ≠ q := fun e => hq (e ▸ h1.1)
    have o1 : isO (nA S q 17 n) 17 a := isO_nA h1 hq
    have m1 : mN (nA S q 17 n) a = mN S a := by rw [mN_nA, if_neg aq]
    have m2 : mN (nA S q 17 n) q = n := by rw [mN_nA, if_pos rfl]
    have i1 : eI (nA S q 17 n) a = eI S a := by rw [eI_nA, if_neg aq]
    have i2 : eI (nA S q 17 n) q = fun _ => 0 := by rw [eI_nA, if_pos rfl]
    refine ⟨nI (mN S a), Or.inl ⟨o1.1, by rw [o1.2]; decide, by rw [o1.2]; decide, by rw [m1]; rfl⟩, rfl, trivial, by decide, by omega, rfl, ?_⟩
    rw [im, em, i1, i2]
    refine ⟨17, ⟨o1, isO_nA_self, Or.inl rfl, by decide, by decide, nI_pos (by omega), ?_, ?_⟩, by decide, by omega, rfl, trivial, ⟨some q, rfl, q, hq, rfl, ?_⟩, Nat.le_refl 1, Nat.le_of_eq (Nat.zero_add _)⟩
    · show (0 : Int32).toNatClampNeg + (nI (mN S a)).toNatClampNeg ≤ mN (nA S q 17 n) a
      rw [em, m1, show (0 : Int32).toNatClampNeg = 0 from by decide]; omega
    · show (0 : Int32).toNatClampNeg + (nI (mN S a)).toNatClampNeg ≤ mN (nA S q 17 n) q
      rw [em, m2, show (0 : Int32).toNatClampNeg = 0 from by decide]; omega
    · unfold cpI
      refine congrArg (rI (nA S q 17 n) q) (funext fun k => ?_)
      rw [show (0 : Int32).toNatClampNeg = 0 from by decide]
      unfold va_cpy
      by_cases hk : k < mN S a
      · rw [if_pos hk]; simp [hk]
      · rw [if_neg hk]; simp [hk]
  · exact fun _ _ _ _ _ h => by cases h
theorem u_cpi (l : Launch) : Us l yJ7_copyOf_59c91 cJ7_copyOf_59c91 3 (some (.array .int)) 1 32 99 T_cpi := by
  intro Rc Rs av S cs sl K Kx h
  unfold T_cpi at h
  split at h
  · rename_i a_o n_v
    obtain ⟨a, rfl, h_1⟩ := pa_of h
    obtain ⟨n, rfl, h_2⟩ := h_1
    obtain ⟨hp, hc, hs, hk⟩ := h_2
    refine ⟨(sp_cpi a n), c_cpi l a n, fun _ _ _ => trivial, ⟨rfl, hp⟩, hc, hs, fun v9 S' h8 => by
      obtain ⟨v8, h7, h8⟩ := h8
      cases h7
      exact hk _ _ h8, fun _ _ q => q.elim⟩
  · exact h.elim
