/-! ===== Peer.openBody ===== -/
def obS (S : MM) (cu s n : Nat) : MM := sI (sI (sR S 300 cu (some s)) 301 cu (nI 3)) 302 cu (nI (n - 4))
def T_pob : TR := fun Rc Rs av S cs sl K _Kx => match av with
  | [.inr (.inr b_o), .inr (.inr s_o)] => pa b_o fun b => (pa s_o fun s => (∃ (cu d : Nat) (B : List Nat), (isO S 11 b ∧ mR S 1105 b = some cu ∧ isO S 3 cu ∧ By S s d B ∧ 7 ≤ B.length) ∧ cs ≤ Rc ∧ sl ≤ Rs ∧ (K none (obS S cu s B.length) cs sl)))
  | _ => False
def sp_pob (b : Nat) (s : Nat) (cu d : Nat) (B : List Nat) : Sp := (fun av S => av = [.inr (.inr (some b)), .inr (.inr (some s))] ∧ (isO S 11 b ∧ mR S 1105 b = some cu ∧ isO S 3 cu ∧ By S s d B ∧ 7 ≤ B.length), fun _ S => 0, fun _ S => 0, fun _ S rv S' => rv = none ∧ S' = obS S cu s B.length, fun _ _ _ _ => False)
def tX10_openBody : CD := [(0, .aload_n 0), (1, .getfield 39), (4, .aload_n 1), (5, .iconst 3), (6, .aload_n 1), (7, .getfield 174), (10, .iconst 4), (11, .isub), (12, .invokevirtual 175), (15, .return_)]
set_option maxRecDepth 100000 in
theorem kX10_openBody : chk cX10_openBody tX10_openBody = true := by decide +kernel
theorem vX10_openBody_175 : ∀ w ∈ ([.methodLink RX10 175 yX2_open, .instanceMethod yX2_open, .selects yX2_open.cls yX2_open yX2_open, .initialized yX2_open.cls, .code yX2_open cX2_open 4 none] : List Cond), w ∈ lw_good := List.forall_mem_cons.mpr ⟨mgd 1477 (by decide +kernel) (by decide +kernel), List.forall_mem_cons.mpr ⟨mgd 1478 (by decide +kernel) (by decide +kernel), List.forall_mem_cons.mpr ⟨mgd 1479 (by decide +kernel) (by decide +kernel), List.forall_mem_cons.mpr ⟨mgd 131 (by decide +kernel) (by decide +kernel), List.forall_mem_cons.mpr ⟨mgd 1480 (by decide +kernel) (by decide +kernel), fun _ h => absurd h List.not_mem_nil⟩⟩⟩⟩⟩
set_option maxRecDepth 100000 in
set_option maxHeartbeats 2000000 in
theorem c_pob (l : Launch) : ∀ (b : Nat) (s : Nat) (cu d : Nat) (B : List Nat), Ct l yX10_openBody cX10_openBody 2 none 1 23 (sp_pob b s cu d B) := by
  intro b s cu d B
  refine Ct.of (fX10, nX10, aX10, iX10, lX10, [(175, 0, 4, 0, T_copn)], qX10, gX10, []) false tX10_openBody (fun _ _ _ => none) (by decide) (by decide) kX10_openBody ⟨_, _, rfl⟩ fX10_ok nX10_ok aX10_ok iX10_ok lX10_ok (fun p e R s m args below meth c Q D cy z r A C hR1 hR2 => List.forall_mem_cons.mpr ⟨cOK_use (fun _ _ _ _ _ _ _ _ h => let ⟨sp, h1, h2, h3⟩ := u_copn l _ _ _ _ _ _ _ _ h; ⟨sp, cOK_V C h1 vX10_openBody_175 ⟨by decide, by decide, by decide +kernel⟩ ⟨by rw [hR1]; decide, by rw [hR2]; decide⟩ (k := 3) (T := TX2) (N := 3) rfl (by decide) h2, h3⟩), fun _ h => absurd h List.not_mem_nil⟩) qX10_ok gX10_ok rfl ?_ ?_
  · rintro _ S ⟨rfl, hp⟩
    refine ⟨Nat.le_of_ble_eq_true rfl, 300, ?_⟩
    show (isO S 11 b ∧ (isO S 2 s ∧ (0 = 0 ∧ ((pa (mR S 1105 b) fun a_1 => ((isO S 3 a_1) ∧ 0 ≤ 0 ∧ 0 ≤ 0 ∧ ((([] : List MV) = [] ∧ mret none (sp_pob b s cu d B) [.inr (.inr (some b)), .inr (.inr (some s))] S none (sI (sI (sR S 300 a_1 (some s)) 301 a_1 (3 : Int32)) 302 a_1 ((mI S 201 s) - (4 : Int32))) 0 0))))))))
    obtain ⟨h1, h2, h3, hB, h4⟩ := hp
    have e1 : mI S 201 s - (4 : Int32) = nI (B.length - 4) := by
      rw [hB.2.2.2.1]
      exact pk_sub (b := 4) (by omega)
    rw [e1]
    exact ⟨h1, hB.1, rfl, pa_i h2 ⟨h3, Nat.le_refl _, Nat.le_refl _, rfl, trivial, ⟨rfl, rfl⟩, Nat.le_refl _, Nat.le_refl _⟩⟩
  · exact fun _ _ _ _ _ h => by cases h
theorem u_pob (l : Launch) : Us l yX10_openBody cX10_openBody 2 none 1 23 11 T_pob := by
  intro Rc Rs av S cs sl K Kx h
  unfold T_pob at h
  split at h
  · rename_i b_o s_o
    obtain ⟨b, rfl, h_1⟩ := pa_of h
    obtain ⟨s, rfl, h_2⟩ := pa_of h_1
    obtain ⟨cu, d, B, hp, hc, hs, hk⟩ := h_2
    refine ⟨(sp_pob b s cu d B), c_pob l b s cu d B, fun _ _ h9 => ⟨_, _, h9.1, h9.2.1⟩, ⟨rfl, hp⟩, hc, hs, fun S' h8 => by
      obtain ⟨-, h8⟩ := h8
      subst h8
      exact hk, fun _ _ q => q.elim⟩
  · exact h.elim
theorem obS_cu {S : MM} {cu s d : Nat} {B : List Nat} (h : isO S 3 cu) (hB : By S s d B) (h7 : 7 ≤ B.length) : Cu (obS S cu s B.length) cu s 3 (B.length - 4) ∧ Keep (fun b => b = cu) S (obS S cu s B.length) := by
  have hl := hB.len
  unfold obS
  refine ⟨⟨isO_sI (isO_sI (isO_sR h)), ?_, ?_, ?_, by omega, by omega⟩, Keep.sI (P := fun b => b = cu) (Keep.sI (P := fun b => b = cu) (Keep.sR (P := fun b => b = cu) Keep.rf rfl) rfl) rfl⟩
  · rw [mR_sI, mR_sI, mR_sR, if_pos ⟨rfl, rfl⟩]
  · rw [mI_sI, if_neg (fun z => absurd z.1 (by decide)), mI_sI, if_pos ⟨rfl, rfl⟩]
  · rw [mI_sI, if_pos ⟨rfl, rfl⟩]
