/-! ===== arraycopy and Arrays.copyOf of longs ===== -/
def sp_acopyJ : Sp := sp0 (fun av S => ∃ a0 a1 x y n, av = [.inr (.inr (some a0)), .inl x, .inr (.inr (some a1)), .inl y, .inl n] ∧ isO S 18 a0 ∧ isO S 18 a1 ∧ ¬ x < 0 ∧ ¬ y < 0 ∧ ¬ n < 0 ∧ x.toNatClampNeg + n.toNatClampNeg ≤ mN S a0 ∧ y.toNatClampNeg + n.toNatClampNeg ≤ mN S a1)
  (fun av S r S' => ∀ a0 a1 x y n, av = [.inr (.inr (some a0)), .inl x, .inr (.inr (some a1)), .inl y, .inl n] → r = none ∧ S' = rJ S a1 (va_cpy (eJ S a0) (eJ S a1) x.toNatClampNeg y.toNatClampNeg n.toNatClampNeg))
section MNATJ
variable {p : Program} {l : Launch} {e : Env} {R : Room} {s : State} {m : MethodId} {args : Array Value} {below : List Frame} {meth : Method} {c : Code} {Q : State → Prop} {cc : ByteArray} {nL : Nat} {own : String} {D : va_G} {cy : Nat → ClassId} {z : Nat} {r0 : Nat × Nat} {A : Nat → Prop}
theorem cOK_acopyJ (C : mCx p l s m args meth c cc nL own D cy z r0 A) {n : Nat} (hw : ∀ w ∈ ([.methodLink own n arraycopyName, .native arraycopyName, .static arraycopyName, .initialized "java/lang/System"] : List Cond), w ∈ lw_good) (hR : 1 ≤ R.frames ∧ 8 + (nativeFrameWords "java/lang/System" "arraycopy" 5 + 11) ≤ R.locals) : cOKo p l e R s m args below meth c Q cc nL D cy z r0 A (n, 2, 5, 0, sp_acopyJ) := by
  intro pc lo av rest S cs sl i hi hdec hlen hsum hpre hc hs kk kx
  dsimp only at hi hlen hpre hc hs kk
  obtain ⟨a0, a1, x, y, n9, rfl, h1, h2, h4, h5, h6, h7, h8⟩ := hpre
  have hi : i = .invokestatic n := by
    rcases hi with ⟨h, -⟩ | ⟨h, -⟩ | ⟨-, h⟩
    · exact absurd h (by decide)
    · exact absurd h (by decide)
    · exact h
  subst hi
  intro ls H locs hl hz hP hD hS
  have ok : ∀ w ∈ ([.methodLink own n arraycopyName, .native arraycopyName, .static arraycopyName, .initialized "java/lang/System"] : List Cond), w.before args s = true := fun w h => C.2.2.2.2.1 w (hw w h)
  obtain ⟨q0, hq0⟩ := mat (cy := cy) h1
  obtain ⟨q1, hq1⟩ := mat (cy := cy) h2
  have k16 : ¬ (18 : Nat) < 16 := by omega
  rw [mE_a (S := S) rfl (by rw [h1.2]; exact k16), mRow_J h1.2] at hq0
  rw [mE_a (S := S) rfl (by rw [h2.2]; exact k16), mRow_J h2.2] at hq1
  have ht : (mtys cy)[2]? = some (cy 18, .long) := rfl
  refine va_copyl (rest := rest.map toV) C.1 C.2.1 (C.2.2.1.trans hl.1.symm) C.2.2.2.1 (ok _ (by simp)) (ok _ (by simp)) (ok _ (by simp)) (ok _ (by simp)) C.2.2.2.2.2.1 hP hD hS q0 q1 2 2 hq0 hq1 (by rw [h1.2]; exact ht) (by rw [h2.2]; exact ht) rfl h4 h5 h6 h7 h8 (fun _ _ => rfl) hR.1 (by rw [toV_cat]; omega) hdec (fun H1 locs1 hP1 hD1 hS1 => ?_)
  rw [mW_rJ hD h2.1 (by rw [h2.2]; exact k16) h2.2 hq1] at hP1 hD1
  exact kk none (rJ S a1 (va_cpy (eJ S a0) (eJ S a1) x.toNatClampNeg y.toNatClampNeg n9.toNatClampNeg)) rfl (fun _ _ _ _ _ e9 => by cases e9; exact ⟨rfl, rfl⟩) ls H1 locs1 hl hz hP1 hD1 hS1
end MNATJ
def acJ (S : MM) (a0 a1 : Nat) (x y n : Int32) : Prop := isO S 18 a0 ∧ isO S 18 a1 ∧ ¬ x < 0 ∧ ¬ y < 0 ∧ ¬ n < 0 ∧ x.toNatClampNeg + n.toNatClampNeg ≤ mN S a0 ∧ y.toNatClampNeg + n.toNatClampNeg ≤ mN S a1
def T_acopyJ : TR := fun Rc Rs av S cs sl K _Kx => match av with
  | [.inr (.inr a0_o), .inl x, .inr (.inr a1_o), .inl y, .inl n] => pa a0_o fun a0 => (pa a1_o fun a1 => ((acJ S a0 a1 x y n) ∧ cs ≤ Rc ∧ sl ≤ Rs ∧ (K none (rJ S a1 (va_cpy (eJ S a0) (eJ S a1) x.toNatClampNeg y.toNatClampNeg n.toNatClampNeg)) cs sl)))
  | _ => False
section MUSEJ
variable {Rc Rs : Nat} {av : List MV} {S : MM} {cs sl : Nat} {K : Option MV → MM → Nat → Nat → Prop} {Kx : Nat → MM → Nat → Nat → Prop}
theorem T_acopyJ_ok (h : T_acopyJ Rc Rs av S cs sl K Kx) : Told 0 sp_acopyJ Rc Rs av S cs sl K Kx := by
  unfold T_acopyJ at h
  split at h
  · obtain ⟨a0, rfl, h1⟩ := pa_of h
    obtain ⟨a1, rfl, h2⟩ := pa_of h1
    obtain ⟨hp, hc, hs, hk⟩ := h2
    refine ⟨⟨a0, a1, _, _, _, rfl, hp⟩, hc, hs, fun S' h8 => ?_, fun _ _ q => q.elim⟩
    obtain ⟨-, h8⟩ := h8 _ _ _ _ _ rfl
    subst h8
    exact hk
  · exact h.elim
end MUSEJ
def cpJ (S : MM) (a q n : Nat) : MM := rJ (nA S q 18 n) q (fun k => if k < mN S a then eJ S a k else 0)
def T_cpj : TR := fun Rc Rs av S cs sl K _Kx => match av with
  | [.inr (.inr a_o), .inl n_v] => pa a_o fun a => (∃ (n : Nat), n_v = nI n ∧ ((isO S 18 a ∧ mN S a < n ∧ n ≤ 60000000) ∧ cs + 1 ≤ Rc ∧ sl + n ≤ Rs ∧ (∀ (v : Option Nat) (S' : MM), (∃ q, q ∉ mL S ∧ v = some q ∧ S' = cpJ S a q n) → K (some (.inr (.inr v))) S' (cs + 1) (sl + n))))
  | _ => False
def sp_cpj (a : Nat) (n : Nat)  : Sp := (fun av S => av = [.inr (.inr (some a)), .inl (nI n)] ∧ (isO S 18 a ∧ mN S a < n ∧ n ≤ 60000000), fun _ S => 1, fun _ S => n, fun _ S rv S' => ∃ v, rv = (some (.inr (.inr v))) ∧ (∃ q, q ∉ mL S ∧ v = some q ∧ S' = cpJ S a q n), fun _ _ _ _ => False)
def tJ7_copyOf_c38d5 : CD := [(0, .iload_n 1), (1, .aload_n 0), (2, .arraylength), (3, .if_icmp .ne 11), (6, .aload_n 0), (7, .invokevirtual 319), (10, .checkcast 320), (13, .areturn), (14, .iload_n 1), (15, .newarray .long), (17, .astore_n 2), (18, .aload_n 0), (19, .iconst 0), (20, .aload_n 2), (21, .iconst 0), (22, .aload_n 0), (23, .arraylength), (24, .iload_n 1), (25, .invokestatic 304), (28, .invokestatic 150), (31, .aload_n 2), (32, .areturn)]
set_option maxRecDepth 100000 in
theorem kJ7_copyOf_c38d5 : chk cJ7_copyOf_c38d5 tJ7_copyOf_c38d5 = true := by decide +kernel
theorem vJ7_copyOf_c38d5_304 : ∀ w ∈ ([.methodLink RJ7 304 Lib.Math.min.name, .static Lib.Math.min.name, .initialized "java/lang/Math", .code Lib.Math.min.name Lib.Math.min.code 2 (some .int)] : List Cond), w ∈ lw_good := List.forall_mem_cons.mpr ⟨mgd 789 (by decide +kernel) (by decide +kernel), List.forall_mem_cons.mpr ⟨mgd 777 (by decide +kernel) (by decide +kernel), List.forall_mem_cons.mpr ⟨mgd 143 (by decide +kernel) (by decide +kernel), List.forall_mem_cons.mpr ⟨mgd 778 (by decide +kernel) (by decide +kernel), fun _ h => absurd h List.not_mem_nil⟩⟩⟩⟩
theorem vJ7_copyOf_c38d5_150 : ∀ w ∈ ([.methodLink RJ7 150 arraycopyName, .native arraycopyName, .static arraycopyName, .initialized "java/lang/System"] : List Cond), w ∈ lw_good := List.forall_mem_cons.mpr ⟨mgd 790 (by decide +kernel) (by decide +kernel), List.forall_mem_cons.mpr ⟨mgd 792 (by decide +kernel) (by decide +kernel), List.forall_mem_cons.mpr ⟨mgd 791 (by decide +kernel) (by decide +kernel), List.forall_mem_cons.mpr ⟨mgd 144 (by decide +kernel) (by decide +kernel), fun _ h => absurd h List.not_mem_nil⟩⟩⟩⟩
set_option maxRecDepth 100000 in
set_option maxHeartbeats 2000000 in
theorem c_cpj (l : Launch) : ∀ (a : Nat) (n : Nat), Ct l yJ7_copyOf_c38d5 cJ7_copyOf_c38d5 3 (some (.array .long)) 1 32 (sp_cpj a n) := by
  intro a n
  refine Ct.of (fJ7, nJ7, aJ7, iJ7, lJ7, [(304, 2, 2, 1, T_min), (150, 2, 5, 0, T_acopyJ)], qJ7, gJ7, []) false tJ7_copyOf_c38d5 (fun _ _ _ => none) (by decide) (by decide) kJ7_copyOf_c38d5 ⟨_, _, rfl⟩ fJ7_ok nJ7_ok aJ7_ok iJ7_ok lJ7_ok (fun p e R s m args below meth c Q D cy z r A C hR1 hR2 => List.forall_mem_cons.mpr ⟨cOK_use (fun _ _ _ _ _ _ _ _ h => ⟨sp_min, cOK_min C vJ7_copyOf_c38d5_304 ⟨by rw [hR1]; decide, by rw [hR2]; decide⟩, T_min_ok h⟩), List.forall_mem_cons.mpr ⟨cOK_use (fun _ _ _ _ _ _ _ _ h => ⟨sp_acopyJ, cOK_acopyJ C vJ7_copyOf_c38d5_150 ⟨by rw [hR1]; decide, by rw [hR2]; decide⟩, T_acopyJ_ok h⟩), fun _ h => absurd h List.not_mem_nil⟩⟩) qJ7_ok gJ7_ok rfl ?_ ?_
  · rintro _ S ⟨rfl, hp⟩
    refine ⟨Nat.le_of_ble_eq_true rfl, 300, ?_⟩
    show (∃ v_1 : Int32, (a ∈ mL S ∧ ¬ mK S a < 16 ∧ mK S a < 29 ∧ v_1 = Int32.ofNat (mN S a) ∨ a = mZ S ∧ v_1 = 0) ∧ ((¬ (nI n) = v_1 → (¬ (nI n) < 0 ∧ (nI n).toNatClampNeg * 8 ≤ 536870912 ∧ 0 + 1 ≤ 1 ∧ 0 + (nI n).toNatClampNeg ≤ n ∧ ∀ q_2, q_2 ∉ mL S → (∃ v_3 : Int32, (a ∈ mL (nA S q_2 18 (nI n).toNatClampNeg) ∧ ¬ mK (nA S q_2 18 (nI n).toNatClampNeg) a < 16 ∧ mK (nA S q_2 18 (nI n).toNatClampNeg) a < 29 ∧ v_3 = Int32.ofNat (mN (nA S q_2 18 (nI n).toNatClampNeg) a) ∨ a = mZ (nA S q_2 18 (nI n).toNatClampNeg) ∧ v_3 = 0) ∧ (2 = 2 ∧ (True ∧ 0 + 1 ≤ 1 ∧ 0 + (nI n).toNatClampNeg ≤ n ∧ ((2 = 2 ∧ ((acJ (nA S q_2 18 (nI n).toNatClampNeg) a q_2 (0 : Int32) (0 : Int32) (imin v_3 (nI n))) ∧ 0 + 1 ≤ 1 ∧ 0 + (nI n).toNatClampNeg ≤ n ∧ ((([] : List MV) = [] ∧ mret (some (.array .long)) (sp_cpj a n) [.inr (.inr (some a)), .inl (nI n)] S (some (.inr (.inr (some q_2)))) (rJ (nA S q_2 18 (nI n).toNatClampNeg) q_2 (va_cpy (eJ (nA S q_2 18 (nI n).toNatClampNeg) a) (eJ (nA S q_2 18 (nI n).toNatClampNeg) q_2) (0 : Int32).toNatClampNeg (0 : Int32).toNatClampNeg (imin v_3 (nI n)).toNatClampNeg)) (0 + 1) (0 + (nI n).toNatClampNeg))))))))))) ∧ ((nI n) = v_1 → False)))
    obtain ⟨h1, h2, h3⟩ := hp
    have ec : (nI n).toNatClampNeg = n := nI_clamp (by omega)
    have em : (nI (mN S a)).toNatClampNeg = mN S a := nI_clamp (by omega)
    have im : imin (nI (mN S a)) (nI n) = nI (mN S a) := by
      unfold imin
      exact if_neg (fun z => by have := (nI_ltI (by omega) (by omega)).1 z; omega)
    rw [ec]
    refine ⟨nI (mN S a), Or.inl ⟨h1.1, by rw [h1.2]; decide, by rw [h1.2]; decide, rfl⟩, fun _ => ⟨nI_pos (by omega), by omega, by decide, by omega, fun q hq => ?_⟩, fun z => absurd ((nI_eq (by omega) (by omega)).1 z) (by omega)⟩
    have aq : a ≠ q := fun e => hq (e ▸ h1.1)
    have o1 : isO (nA S q 18 n) 18 a := isO_nA h1 hq
    have m1 : mN (nA S q 18 n) a = mN S a := by rw [mN_nA, if_neg aq]
    have m2 : mN (nA S q 18 n) q = n := by rw [mN_nA, if_pos rfl]
    have i1 : eJ (nA S q 18 n) a = eJ S a := ((Keep.nA (P := fun _ => False) Keep.rf hq).2.1 a h1.1 id).2.2.2.2.1
    have i2 : eJ (nA S q 18 n) q = fun _ => 0 := va_up_self _ _ _
    refine ⟨nI (mN S a), Or.inl ⟨o1.1, by rw [o1.2]; decide, by rw [o1.2]; decide, by rw [m1]; rfl⟩, rfl, trivial, by decide, by omega, rfl, ?_⟩
    rw [im, em, i1, i2]
    refine ⟨⟨o1, isO_nA_self, by decide, by decide, nI_pos (by omega), ?_, ?_⟩, by decide, by omega, rfl, trivial, ⟨some q, rfl, q, hq, rfl, ?_⟩, Nat.le_refl 1, Nat.le_of_eq (Nat.zero_add _)⟩
    · show (0 : Int32).toNatClampNeg + (nI (mN S a)).toNatClampNeg ≤ mN (nA S q 18 n) a
      rw [em, m1, show (0 : Int32).toNatClampNeg = 0 from by decide]; omega
    · show (0 : Int32).toNatClampNeg + (nI (mN S a)).toNatClampNeg ≤ mN (nA S q 18 n) q
      rw [em, m2, show (0 : Int32).toNatClampNeg = 0 from by decide]; omega
    · unfold cpJ
      refine congrArg (rJ (nA S q 18 n) q) (funext fun k => ?_)
      rw [show (0 : Int32).toNatClampNeg = 0 from by decide]
      unfold va_cpy
      by_cases hk : k < mN S a
      · rw [if_pos hk]; simp [hk]
      · rw [if_neg hk]; simp [hk]
  · exact fun _ _ _ _ _ h => by cases h
theorem u_cpj (l : Launch) : Us l yJ7_copyOf_c38d5 cJ7_copyOf_c38d5 3 (some (.array .long)) 1 32 99 T_cpj := by
  intro Rc Rs av S cs sl K Kx h
  unfold T_cpj at h
  split at h
  · rename_i a_o n_v
    obtain ⟨a, rfl, h_1⟩ := pa_of h
    obtain ⟨n, rfl, h_2⟩ := h_1
    obtain ⟨hp, hc, hs, hk⟩ := h_2
    refine ⟨(sp_cpj a n), c_cpj l a n, fun _ _ _ => trivial, ⟨rfl, hp⟩, hc, hs, fun v9 S' h8 => by
      obtain ⟨v8, h7, h8⟩ := h8
      cases h7
      exact hk _ _ h8, fun _ _ q => q.elim⟩
  · exact h.elim
