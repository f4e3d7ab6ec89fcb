/-! ===== The reference's Out: column ===== -/
theorem Ou.keep {S S' : MM} {P : Nat → Prop} {o cb : Nat} {B : List Nat} (h : Ou S o cb B) (hK : Keep P S S') (n1 : ¬ P o) (n2 : ¬ P cb) : Ou S' o cb B := by
  obtain ⟨a1, a2, a3, a4, a5, a6, a7, a8, a9⟩ := h
  obtain ⟨k1, k2, -⟩ := hK.2.1 o a1.1 n1
  have k3 := (hK.2.1 cb a3.1 n2).2.2.2.1
  exact ⟨hK.isO a1, (k2 _).trans a2, hK.isO a3, (hK.1 cb a3.1).2.2.trans a4, (k1 _).trans a5, a6, a7, k3 ▸ a8, k3 ▸ a9⟩
def T_ocl : TR := fun Rc Rs av S cs sl K _Kx => match av with
  | [.inr (.inr o_o), .inr (.inr o2_o)] => pa o_o fun o => (pa o2_o fun o2 => (∃ (cb cb2 : Nat) (B B2 : List Nat), (Ou S o cb B ∧ Ou S o2 cb2 B2 ∧ o ≠ o2 ∧ cb ≠ cb2 ∧ B.length + 5 + B2.length ≤ 1000000) ∧ cs ≤ Rc ∧ sl ≤ Rs ∧ (∀ (S' : MM), (ouP S S' o cb (B ++ (vbN 5 B2.length ++ clp B2))) → K none S' cs sl)))
  | _ => False
def sp_ocl (o : Nat) (o2 : Nat) (cb cb2 : Nat) (B B2 : List Nat) : Sp := (fun av S => av = [.inr (.inr (some o)), .inr (.inr (some o2))] ∧ (Ou S o cb B ∧ Ou S o2 cb2 B2 ∧ o ≠ o2 ∧ cb ≠ cb2 ∧ B.length + 5 + B2.length ≤ 1000000), fun _ S => 0, fun _ S => 0, fun _ S rv S' => rv = none ∧ (ouP S S' o cb (B ++ (vbN 5 B2.length ++ clp B2))), fun _ _ _ _ => False)
def tX13_column : CD := [(0, .aload_n 0), (1, .aload_n 1), (2, .getfield 16), (5, .i2l), (6, .invokevirtual 28), (9, .aload_n 0), (10, .aload_n 1), (11, .invokevirtual 32), (14, .return_)]
set_option maxRecDepth 100000 in
theorem kX13_column : chk cX13_column tX13_column = true := by decide +kernel
theorem vX13_column_28 : ∀ w ∈ ([.methodLink RX13 28 yX13_number, .instanceMethod yX13_number, .selects yX13_number.cls yX13_number yX13_number, .initialized yX13_number.cls, .code yX13_number cX13_number 5 none] : List Cond), w ∈ lw_good := List.forall_mem_cons.mpr ⟨mgd 2321 (by decide +kernel) (by decide +kernel), List.forall_mem_cons.mpr ⟨mgd 2255 (by decide +kernel) (by decide +kernel), List.forall_mem_cons.mpr ⟨mgd 2256 (by decide +kernel) (by decide +kernel), List.forall_mem_cons.mpr ⟨mgd 137 (by decide +kernel) (by decide +kernel), List.forall_mem_cons.mpr ⟨mgd 2257 (by decide +kernel) (by decide +kernel), fun _ h => absurd h List.not_mem_nil⟩⟩⟩⟩⟩
theorem vX13_column_32 : ∀ w ∈ ([.methodLink RX13 32 yX13_all, .instanceMethod yX13_all, .selects yX13_all.cls yX13_all yX13_all, .initialized yX13_all.cls, .code yX13_all cX13_all 3 none] : List Cond), w ∈ lw_good := List.forall_mem_cons.mpr ⟨mgd 2322 (by decide +kernel) (by decide +kernel), List.forall_mem_cons.mpr ⟨mgd 2323 (by decide +kernel) (by decide +kernel), List.forall_mem_cons.mpr ⟨mgd 2324 (by decide +kernel) (by decide +kernel), List.forall_mem_cons.mpr ⟨mgd 137 (by decide +kernel) (by decide +kernel), List.forall_mem_cons.mpr ⟨mgd 2325 (by decide +kernel) (by decide +kernel), fun _ h => absurd h List.not_mem_nil⟩⟩⟩⟩⟩
set_option maxRecDepth 100000 in
set_option maxHeartbeats 2000000 in
theorem c_ocl (l : Launch) : ∀ (o : Nat) (o2 : Nat) (cb cb2 : Nat) (B B2 : List Nat), Ct l yX13_column cX13_column 2 none 2 45 (sp_ocl o o2 cb cb2 B B2) := by
  intro o o2 cb cb2 B B2
  refine Ct.of (fX13, nX13, aX13, iX13, lX13, [(28, 0, 2, 0, T_onu), (32, 0, 2, 0, T_oal)], qX13, gX13, []) false tX13_column (fun _ _ _ => none) (by decide) (by decide) kX13_column ⟨_, _, rfl⟩ fX13_ok nX13_ok aX13_ok iX13_ok lX13_ok (fun p e R s m args below meth c Q D cy z r A C hR1 hR2 => List.forall_mem_cons.mpr ⟨cOK_use (fun _ _ _ _ _ _ _ _ h => let ⟨sp, h1, h2, h3⟩ := u_onu l _ _ _ _ _ _ _ _ h; ⟨sp, cOK_V C h1 vX13_column_28 ⟨by decide, by decide, by decide +kernel⟩ ⟨by rw [hR1]; decide, by rw [hR2]; decide⟩ (k := 14) (T := TX13) (N := 2) rfl (by decide) h2, h3⟩), List.forall_mem_cons.mpr ⟨cOK_use (fun _ _ _ _ _ _ _ _ h => let ⟨sp, h1, h2, h3⟩ := u_oal l _ _ _ _ _ _ _ _ h; ⟨sp, cOK_V C h1 vX13_column_32 ⟨by decide, by decide, by decide +kernel⟩ ⟨by rw [hR1]; decide, by rw [hR2]; decide⟩ (k := 14) (T := TX13) (N := 2) rfl (by decide) h2, h3⟩), fun _ h => absurd h List.not_mem_nil⟩⟩) qX13_ok gX13_ok rfl ?_ ?_
  · rintro _ S ⟨rfl, hp⟩
    refine ⟨Nat.le_of_ble_eq_true rfl, 300, ?_⟩
    show (isO S 14 o2 ∧ (0 = 0 ∧ (∃ (cb_1 : Nat) (B_2 : List Nat) (n_3 : Nat), (Ou S o cb_1 B_2 ∧ ((mI S 1401 o2).toInt64) = lN n_3 ∧ n_3 < 2 ^ 35 ∧ B_2.length + 5 ≤ 1000000) ∧ 0 ≤ 0 ∧ 0 ≤ 0 ∧ (∀ (S_4 : MM), (ouP S S_4 o cb_1 (B_2 ++ vbN 5 n_3)) → (0 = 0 ∧ (∃ (cb_5 cb2_6 : Nat) (B_7 B2_8 : List Nat), (Ou S_4 o cb_5 B_7 ∧ Ou S_4 o2 cb2_6 B2_8 ∧ o ≠ o2 ∧ cb_5 ≠ cb2_6 ∧ B_7.length + B2_8.length ≤ 1000000) ∧ 0 ≤ 0 ∧ 0 ≤ 0 ∧ (∀ (S_9 : MM), (ouP S_4 S_9 o cb_5 (B_7 ++ clp B2_8)) → (([] : List MV) = [] ∧ mret none (sp_ocl o o2 cb cb2 B B2) [.inr (.inr (some o)), .inr (.inr (some o2))] S none S_9 0 0))))))))
    obtain ⟨h1, h2, h3, h4, h5⟩ := hp
    have a5 : mI S 1401 o2 = nI B2.length := h2.2.2.2.2.1
    have n1 : ¬ (o2 = o ∨ o2 = cb) := fun z => z.elim (fun z => h3 z.symm) (fun z => isO_ne h2.1 h1.2.2.1 (by decide) z)
    have n2 : ¬ (cb2 = o ∨ cb2 = cb) := fun z => z.elim (fun z => isO_ne h1.1 h2.2.2.1 (by decide) z.symm) (fun z => h4 z.symm)
    have vl := vbN_len 5 B2.length
    have lb : B2.length ≤ 1000000 := by omega
    rw [a5]
    refine ⟨h2.1, rfl, cb, B, B2.length, ⟨h1, nI_l (by omega), by omega, by omega⟩, Nat.le_refl _, Nat.le_refl _, fun S1 hq => ⟨rfl, cb, cb2, _, B2, ⟨hq.1, h2.keep hq.2 n1 n2, h3, h4, by rw [List.length_append]; omega⟩, Nat.le_refl _, Nat.le_refl _, fun S2 hq2 => ⟨rfl, trivial, ⟨rfl, by rw [← List.append_assoc]; exact hq2.1, hq.2.tr hq2.2⟩, Nat.le_refl _, Nat.le_refl _⟩⟩⟩
  · exact fun _ _ _ _ _ h => by cases h
theorem u_ocl (l : Launch) : Us l yX13_column cX13_column 2 none 2 45 14 T_ocl := by
  intro Rc Rs av S cs sl K Kx h
  unfold T_ocl at h
  split at h
  · rename_i o_o o2_o
    obtain ⟨o, rfl, h_1⟩ := pa_of h
    obtain ⟨o2, rfl, h_2⟩ := pa_of h_1
    obtain ⟨cb, cb2, B, B2, hp, hc, hs, hk⟩ := h_2
    refine ⟨(sp_ocl o o2 cb cb2 B B2), c_ocl l o o2 cb cb2 B B2, fun _ _ h9 => ⟨_, _, h9.1, h9.2.1.1⟩, ⟨rfl, hp⟩, hc, hs, fun S' h8 => by
      obtain ⟨-, h8⟩ := h8
      exact hk _ h8, fun _ _ q => q.elim⟩
  · exact h.elim
