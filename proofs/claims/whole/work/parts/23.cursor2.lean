/-! ===== Cursor.splitTo, copyTo ===== -/
/-- a column that stands at p: from where to where -/
def spl (B : List Nat) (q p : Nat) : Option (Nat × Nat) := match (vint B q p).1 with
  | none => none
  | some n => if n ≤ q - (vint B q p).2 then some ((vint B q p).2, (vint B q p).2 + n) else none
theorem spl_le {B : List Nat} {q p x y : Nat} (hp : p ≤ q) (h : spl B q p = some (x, y)) : p ≤ x ∧ x ≤ y ∧ y ≤ q := by
  have h1 := vint_le (B := B) hp
  unfold spl at h
  split at h
  · cases h
  · split at h
    · cases h
      omega
    · cases h
def splP (S S' : MM) (c o s q p : Nat) (B : List Nat) (v : Int32) : Prop := (v = 1 ∧ ∃ x y, spl B q p = some (x, y) ∧ S' = sI (sI (sI (sR (sI S 301 c (nI x)) 300 o (some s)) 301 o (nI x)) 302 o (nI y)) 301 c (nI y)) ∨ (v = 0 ∧ spl B q p = none ∧ S' = sI S 301 c (nI (vint B q p).2))
def T_cspl : TR := fun Rc Rs av S cs sl K _Kx => match av with
  | [.inr (.inr c_o), .inr (.inr o_o)] => pa c_o fun c => (pa o_o fun o => (∃ (s d p q : Nat) (B : List Nat), (Cu S c s p q ∧ By S s d B ∧ isO S 3 o ∧ o ≠ c) ∧ cs ≤ Rc ∧ sl ≤ Rs ∧ (∀ (v : Int32) (S' : MM), (splP S S' c o s q p B v) → K (some (.inl v)) S' cs sl)))
  | _ => False
def sp_cspl (c : Nat) (o : Nat) (s d p q : Nat) (B : List Nat) : Sp := (fun av S => av = [.inr (.inr (some c)), .inr (.inr (some o))] ∧ (Cu S c s p q ∧ By S s d B ∧ isO S 3 o ∧ o ≠ c), fun _ S => 0, fun _ S => 0, fun _ S rv S' => ∃ v, rv = (some (.inl v)) ∧ (splP S S' c o s q p B v), fun _ _ _ _ => False)
def tX2_splitTo : CD := [(0, .aload_n 0), (1, .invokevirtual 28), (4, .istore_n 2), (5, .iload_n 2), (6, .ifCond .lt 16), (9, .iload_n 2), (10, .aload_n 0), (11, .getfield 19), (14, .aload_n 0), (15, .getfield 15), (18, .isub), (19, .if_icmp .le 5), (22, .iconst 0), (23, .ireturn), (24, .aload_n 1), (25, .aload_n 0), (26, .getfield 9), (29, .aload_n 0), (30, .getfield 15), (33, .aload_n 0), (34, .getfield 15), (37, .iload_n 2), (38, .iadd), (39, .invokevirtual 32), (42, .aload_n 0), (43, .dup), (44, .getfield 15), (47, .iload_n 2), (48, .iadd), (49, .putfield 15), (52, .iconst 1), (53, .ireturn)]
set_option maxRecDepth 100000 in
theorem kX2_splitTo : chk cX2_splitTo tX2_splitTo = true := by decide +kernel
theorem vX2_splitTo_28 : ∀ w ∈ ([.methodLink RX2 28 yX2_varint, .instanceMethod yX2_varint, .selects yX2_varint.cls yX2_varint yX2_varint, .initialized yX2_varint.cls, .code yX2_varint cX2_varint 4 (some .int)] : List Cond), w ∈ lw_good := List.forall_mem_cons.mpr ⟨mgd 1505 (by decide +kernel) (by decide +kernel), List.forall_mem_cons.mpr ⟨mgd 1482 (by decide +kernel) (by decide +kernel), List.forall_mem_cons.mpr ⟨mgd 1483 (by decide +kernel) (by decide +kernel), List.forall_mem_cons.mpr ⟨mgd 131 (by decide +kernel) (by decide +kernel), List.forall_mem_cons.mpr ⟨mgd 1484 (by decide +kernel) (by decide +kernel), fun _ h => absurd h List.not_mem_nil⟩⟩⟩⟩⟩
theorem vX2_splitTo_32 : ∀ w ∈ ([.methodLink RX2 32 yX2_open, .instanceMethod yX2_open, .selects yX2_open.cls yX2_open yX2_open, .initialized yX2_open.cls, .code yX2_open cX2_open 4 none] : List Cond), w ∈ lw_good := List.forall_mem_cons.mpr ⟨mgd 1506 (by decide +kernel) (by decide +kernel), List.forall_mem_cons.mpr ⟨mgd 1478 (by decide +kernel) (by decide +kernel), List.forall_mem_cons.mpr ⟨mgd 1479 (by decide +kernel) (by decide +kernel), List.forall_mem_cons.mpr ⟨mgd 131 (by decide +kernel) (by decide +kernel), List.forall_mem_cons.mpr ⟨mgd 1480 (by decide +kernel) (by decide +kernel), fun _ h => absurd h List.not_mem_nil⟩⟩⟩⟩⟩
set_option maxRecDepth 100000 in
set_option maxHeartbeats 2000000 in
theorem c_cspl (l : Launch) : ∀ (c : Nat) (o : Nat) (s d p q : Nat) (B : List Nat), Ct l yX2_splitTo cX2_splitTo 3 (some .boolean) 2 44 (sp_cspl c o s d p q B) := by
  intro c o s d p q B
  refine Ct.of (fX2, nX2, aX2, iX2, lX2, [(28, 0, 1, 1, T_cvar), (32, 0, 4, 0, T_copn)], qX2, gX2, []) false tX2_splitTo (fun _ _ _ => none) (by decide) (by decide) kX2_splitTo ⟨_, _, rfl⟩ fX2_ok nX2_ok aX2_ok iX2_ok lX2_ok (fun p e R s m args below meth c Q D cy z r A C hR1 hR2 => List.forall_mem_cons.mpr ⟨cOK_use (fun _ _ _ _ _ _ _ _ h => let ⟨sp, h1, h2, h3⟩ := u_cvar l _ _ _ _ _ _ _ _ h; ⟨sp, cOK_V C h1 vX2_splitTo_28 ⟨by decide, by decide, by decide +kernel⟩ ⟨by rw [hR1]; decide, by rw [hR2]; decide⟩ (k := 3) (T := TX2) (N := 3) rfl (by decide) h2, h3⟩), List.forall_mem_cons.mpr ⟨cOK_use (fun _ _ _ _ _ _ _ _ h => let ⟨sp, h1, h2, h3⟩ := u_copn l _ _ _ _ _ _ _ _ h; ⟨sp, cOK_V C h1 vX2_splitTo_32 ⟨by decide, by decide, by decide +kernel⟩ ⟨by rw [hR1]; decide, by rw [hR2]; decide⟩ (k := 3) (T := TX2) (N := 3) rfl (by decide) h2, h3⟩), fun _ h => absurd h List.not_mem_nil⟩⟩) qX2_ok gX2_ok rfl ?_ ?_
  · rintro _ S ⟨rfl, hp⟩
    refine ⟨Nat.le_of_ble_eq_true rfl, 300, ?_⟩
    show (0 = 0 ∧ (∃ (s_1 d_2 p_3 q_4 : Nat) (B_5 : List Nat), (Cu S c s_1 p_3 q_4 ∧ By S s_1 d_2 B_5) ∧ 0 ≤ 0 ∧ 0 ≤ 0 ∧ ((((oI (vint B_5 q_4 p_3).1) < 0 → (([] : List MV) = [] ∧ mret (some .boolean) (sp_cspl c o s d p q B) [.inr (.inr (some c)), .inr (.inr (some o))] S (some (.inl (0 : Int32))) (sI S 301 c (nI (vint B_5 q_4 p_3).2)) 0 0)) ∧ (¬ (oI (vint B_5 q_4 p_3).1) < 0 → (isO (sI S 301 c (nI (vint B_5 q_4 p_3).2)) 3 c ∧ (isO (sI S 301 c (nI (vint B_5 q_4 p_3).2)) 3 c ∧ (((oI (vint B_5 q_4 p_3).1) ≤ ((mI (sI S 301 c (nI (vint B_5 q_4 p_3).2)) 302 c) - (mI (sI S 301 c (nI (vint B_5 q_4 p_3).2)) 301 c)) → (isO (sI S 301 c (nI (vint B_5 q_4 p_3).2)) 3 c ∧ (isO (sI S 301 c (nI (vint B_5 q_4 p_3).2)) 3 c ∧ (isO (sI S 301 c (nI (vint B_5 q_4 p_3).2)) 3 c ∧ (0 = 0 ∧ ((isO (sI S 301 c (nI (vint B_5 q_4 p_3).2)) 3 o) ∧ 0 ≤ 0 ∧ 0 ≤ 0 ∧ ((isO (sI (sI (sR (sI S 301 c (nI (vint B_5 q_4 p_3).2)) 300 o (mR (sI S 301 c (nI (vint B_5 q_4 p_3).2)) 300 c)) 301 o (mI (sI S 301 c (nI (vint B_5 q_4 p_3).2)) 301 c)) 302 o ((mI (sI S 301 c (nI (vint B_5 q_4 p_3).2)) 301 c) + (oI (vint B_5 q_4 p_3).1))) 3 c ∧ (True ∧ (isO (sI (sI (sR (sI S 301 c (nI (vint B_5 q_4 p_3).2)) 300 o (mR (sI S 301 c (nI (vint B_5 q_4 p_3).2)) 300 c)) 301 o (mI (sI S 301 c (nI (vint B_5 q_4 p_3).2)) 301 c)) 302 o ((mI (sI S 301 c (nI (vint B_5 q_4 p_3).2)) 301 c) + (oI (vint B_5 q_4 p_3).1))) 3 c ∧ (([] : List MV) = [] ∧ mret (some .boolean) (sp_cspl c o s d p q B) [.inr (.inr (some c)), .inr (.inr (some o))] S (some (.inl (1 : Int32))) (sI (sI (sI (sR (sI S 301 c (nI (vint B_5 q_4 p_3).2)) 300 o (mR (sI S 301 c (nI (vint B_5 q_4 p_3).2)) 300 c)) 301 o (mI (sI S 301 c (nI (vint B_5 q_4 p_3).2)) 301 c)) 302 o ((mI (sI S 301 c (nI (vint B_5 q_4 p_3).2)) 301 c) + (oI (vint B_5 q_4 p_3).1))) 301 c ((mI (sI (sI (sR (sI S 301 c (nI (vint B_5 q_4 p_3).2)) 300 o (mR (sI S 301 c (nI (vint B_5 q_4 p_3).2)) 300 c)) 301 o (mI (sI S 301 c (nI (vint B_5 q_4 p_3).2)) 301 c)) 302 o ((mI (sI S 301 c (nI (vint B_5 q_4 p_3).2)) 301 c) + (oI (vint B_5 q_4 p_3).1))) 301 c) + (oI (vint B_5 q_4 p_3).1))) 0 0))))))))))) ∧ (¬ (oI (vint B_5 q_4 p_3).1) ≤ ((mI (sI S 301 c (nI (vint B_5 q_4 p_3).2)) 302 c) - (mI (sI S 301 c (nI (vint B_5 q_4 p_3).2)) 301 c)) → (([] : List MV) = [] ∧ mret (some .boolean) (sp_cspl c o s d p q B) [.inr (.inr (some c)), .inr (.inr (some o))] S (some (.inl (0 : Int32))) (sI S 301 c (nI (vint B_5 q_4 p_3).2)) 0 0))))))))))
    obtain ⟨hC, hB, ho, hoc⟩ := hp
    obtain ⟨h1, h2, h3, h4, h5, h6⟩ := id hC
    refine ⟨rfl, s, d, p, q, B, ⟨hC, hB⟩, Nat.le_refl _, Nat.le_refl _, ?_⟩
    have hv := vint_le (B := B) h5
    have hno : (0 : Int32) = 0 ∧ spl B q p = none ∧ sI S 301 c (nI (vint B q p).2) = sI S 301 c (nI (vint B q p).2) → mret (some .boolean) (sp_cspl c o s d p q B) [.inr (.inr (some c)), .inr (.inr (some o))] S (some (.inl 0)) (sI S 301 c (nI (vint B q p).2)) 0 0 := fun z => ⟨Or.inl rfl, ⟨0, rfl, Or.inr z⟩, Nat.le_refl _, Nat.le_refl _⟩
    cases ev : (vint B q p).1 with
    | none =>
      refine ⟨fun _ => ⟨rfl, hno ⟨rfl, ?_, rfl⟩⟩, fun z => absurd (by decide) z⟩
      rw [spl, ev]
    | some n =>
      have hn := vint_lt hB.bytesLt ev
      show (nI n < 0 → _) ∧ _
      refine ⟨fun z => absurd z (nI_pos hn), fun _ => ⟨h1, h1, ?_⟩⟩
      have e1 : mI (sI S 301 c (nI (vint B q p).2)) 301 c = nI (vint B q p).2 := by simp [mL_sI, mL_sR, mL_sJ, mL_rI, mL_rJ, mL_rR, mK_sI, mK_sR, mK_sJ, mK_rI, mK_rJ, mK_rR, mI_sR, mI_sJ, mI_rI, mI_rJ, mI_rR, mR_sI, mR_sJ, mR_rI, mR_rJ, mR_rR, mJ_sI, mJ_sR, mJ_rI, mJ_rJ, mJ_rR, mN_sI, mN_sR, mN_sJ, mN_rI, mN_rJ, mN_rR, eI_sI, eI_sR, eI_sJ, eI_rJ, eI_rR, eJ_sI, eJ_sR, eJ_sJ, eJ_rI, eJ_rR, eR_sI, eR_sR, eR_sJ, eR_rI, eR_rJ, mZ_sI, mZ_sR, mZ_sJ, mZ_rI, mZ_rJ, mZ_rR, mQ_sI, mQ_sR, mQ_sJ, mQ_rI, mQ_rJ, mQ_rR, mI_nA, mR_nA, mJ_nA, mZ_nA, mQ_nA, mN_nO, eI_nO, eJ_nO, eR_nO, mZ_nO, mQ_nO, mI_sI, mR_sR, mJ_sJ, eI_rI, eR_rR, eJ_rJ, eI_nA, mN_nA, mK_nA, mK_nO, mI_nO, mR_nO]
      have e2 : mI (sI S 301 c (nI (vint B q p).2)) 302 c = nI q := by simp [mL_sI, mL_sR, mL_sJ, mL_rI, mL_rJ, mL_rR, mK_sI, mK_sR, mK_sJ, mK_rI, mK_rJ, mK_rR, mI_sR, mI_sJ, mI_rI, mI_rJ, mI_rR, mR_sI, mR_sJ, mR_rI, mR_rJ, mR_rR, mJ_sI, mJ_sR, mJ_rI, mJ_rJ, mJ_rR, mN_sI, mN_sR, mN_sJ, mN_rI, mN_rJ, mN_rR, eI_sI, eI_sR, eI_sJ, eI_rJ, eI_rR, eJ_sI, eJ_sR, eJ_sJ, eJ_rI, eJ_rR, eR_sI, eR_sR, eR_sJ, eR_rI, eR_rJ, mZ_sI, mZ_sR, mZ_sJ, mZ_rI, mZ_rJ, mZ_rR, mQ_sI, mQ_sR, mQ_sJ, mQ_rI, mQ_rJ, mQ_rR, mI_nA, mR_nA, mJ_nA, mZ_nA, mQ_nA, mN_nO, eI_nO, eJ_nO, eR_nO, mZ_nO, mQ_nO, mI_sI, mR_sR, mJ_sJ, eI_rI, eR_rR, eJ_rJ, eI_nA, mN_nA, mK_nA, mK_nO, mI_nO, mR_nO]; exact h4
      have e3 : mR (sI S 301 c (nI (vint B q p).2)) 300 c = some s := by simp [mL_sI, mL_sR, mL_sJ, mL_rI, mL_rJ, mL_rR, mK_sI, mK_sR, mK_sJ, mK_rI, mK_rJ, mK_rR, mI_sR, mI_sJ, mI_rI, mI_rJ, mI_rR, mR_sI, mR_sJ, mR_rI, mR_rJ, mR_rR, mJ_sI, mJ_sR, mJ_rI, mJ_rJ, mJ_rR, mN_sI, mN_sR, mN_sJ, mN_rI, mN_rJ, mN_rR, eI_sI, eI_sR, eI_sJ, eI_rJ, eI_rR, eJ_sI, eJ_sR, eJ_sJ, eJ_rI, eJ_rR, eR_sI, eR_sR, eR_sJ, eR_rI, eR_rJ, mZ_sI, mZ_sR, mZ_sJ, mZ_rI, mZ_rJ, mZ_rR, mQ_sI, mQ_sR, mQ_sJ, mQ_rI, mQ_rJ, mQ_rR, mI_nA, mR_nA, mJ_nA, mZ_nA, mQ_nA, mN_nO, eI_nO, eJ_nO, eR_nO, mZ_nO, mQ_nO, mI_sI, mR_sR, mJ_sJ, eI_rI, eR_rR, eJ_rJ, eI_nA, mN_nA, mK_nA, mK_nO, mI_nO, mR_nO]; exact h2
      rw [show oI (some n) = nI n from rfl]
      rw [e1, e2, pk_sub hv.2]
      refine if_le (by omega) (by omega) (fun h7 => ⟨h1, h1, h1, rfl, ho, Nat.le_refl _, Nat.le_refl _, h1, trivial, h1, rfl, Or.inr rfl, ⟨1, rfl, Or.inl ⟨rfl, (vint B q p).2, (vint B q p).2 + n, ?_, ?_⟩⟩, Nat.le_refl _, Nat.le_refl _⟩) (fun h7 => ⟨rfl, hno ⟨rfl, ?_, rfl⟩⟩)
      · rw [spl, ev]; simp only; rw [if_pos h7]
      · have hne : c ≠ o := fun e => hoc e.symm
        have e4 : mI (sI (sI (sR (sI S 301 c (nI (vint B q p).2)) 300 o (some s)) 301 o (nI (vint B q p).2)) 302 o (nI ((vint B q p).2 + n))) 301 c = nI (vint B q p).2 := by simp [mL_sI, mL_sR, mL_sJ, mL_rI, mL_rJ, mL_rR, mK_sI, mK_sR, mK_sJ, mK_rI, mK_rJ, mK_rR, mI_sR, mI_sJ, mI_rI, mI_rJ, mI_rR, mR_sI, mR_sJ, mR_rI, mR_rJ, mR_rR, mJ_sI, mJ_sR, mJ_rI, mJ_rJ, mJ_rR, mN_sI, mN_sR, mN_sJ, mN_rI, mN_rJ, mN_rR, eI_sI, eI_sR, eI_sJ, eI_rJ, eI_rR, eJ_sI, eJ_sR, eJ_sJ, eJ_rI, eJ_rR, eR_sI, eR_sR, eR_sJ, eR_rI, eR_rJ, mZ_sI, mZ_sR, mZ_sJ, mZ_rI, mZ_rJ, mZ_rR, mQ_sI, mQ_sR, mQ_sJ, mQ_rI, mQ_rJ, mQ_rR, mI_nA, mR_nA, mJ_nA, mZ_nA, mQ_nA, mN_nO, eI_nO, eJ_nO, eR_nO, mZ_nO, mQ_nO, mI_sI, mR_sR, mJ_sJ, eI_rI, eR_rR, eJ_rJ, eI_nA, mN_nA, mK_nA, mK_nO, mI_nO, mR_nO, hne]
        rw [e3, nI_add, e4, nI_add]
      · rw [spl, ev]; simp only; rw [if_neg (by omega)]
  · exact fun _ _ _ _ _ h => by cases h
theorem u_cspl (l : Launch) : Us l yX2_splitTo cX2_splitTo 3 (some .boolean) 2 44 3 T_cspl := by
  intro Rc Rs av S cs sl K Kx h
  unfold T_cspl at h
  split at h
  · rename_i c_o o_o
    obtain ⟨c, rfl, h_1⟩ := pa_of h
    obtain ⟨o, rfl, h_2⟩ := pa_of h_1
    obtain ⟨s, d, p, q, B, hp, hc, hs, hk⟩ := h_2
    refine ⟨(sp_cspl c o s d p q B), c_cspl l c o s d p q B, fun _ _ h9 => ⟨_, _, h9.1, h9.2.1.1⟩, ⟨rfl, hp⟩, hc, hs, fun v9 S' h8 => by
      obtain ⟨v8, h7, h8⟩ := h8
      cases h7
      exact hk _ _ h8, fun _ _ q => q.elim⟩
  · exact h.elim
def cpyP (S S' : MM) (c o e n p q : Nat) (B O : List Nat) (v : Int32) : Prop := (v = 1 ∧ n ≤ q - p ∧ ∃ S2 e', App S S2 o e e' O (rngV B p n) ∧ S' = sI S2 301 c (nI (p + n))) ∨ (v = 0 ∧ q - p < n ∧ S' = S)
def T_ccpy : TR := fun Rc Rs av S cs sl K _Kx => match av with
  | [.inr (.inr c_o), .inr (.inr o_o), .inl n_v] => pa c_o fun c => (pa o_o fun o => (∃ (n : Nat), n_v = nI n ∧ (∃ (s d p q e : Nat) (B O : List Nat), (Cu S c s p q ∧ By S s d B ∧ By S o e O ∧ s ≠ o ∧ d ≠ e ∧ n < 2147483648) ∧ cs + (if n ≤ q - p then addNC n (mN S e) O.length else 0) ≤ Rc ∧ sl + (if n ≤ q - p then addNS n (mN S e) O.length else 0) ≤ Rs ∧ (∀ (v : Int32) (S' : MM), (cpyP S S' c o e n p q B O v) → K (some (.inl v)) S' (cs + (if n ≤ q - p then addNC n (mN S e) O.length else 0)) (sl + (if n ≤ q - p then addNS n (mN S e) O.length else 0))))))
  | _ => False
def sp_ccpy (c : Nat) (o : Nat) (n : Nat) (s d p q e : Nat) (B O : List Nat) : Sp := (fun av S => av = [.inr (.inr (some c)), .inr (.inr (some o)), .inl (nI n)] ∧ (Cu S c s p q ∧ By S s d B ∧ By S o e O ∧ s ≠ o ∧ d ≠ e ∧ n < 2147483648), fun _ S => (if n ≤ q - p then addNC n (mN S e) O.length else 0), fun _ S => (if n ≤ q - p then addNS n (mN S e) O.length else 0), fun _ S rv S' => ∃ v, rv = (some (.inl v)) ∧ (cpyP S S' c o e n p q B O v), fun _ _ _ _ => False)
def tX2_copyTo : CD := [(0, .iload_n 2), (1, .aload_n 0), (2, .getfield 19), (5, .aload_n 0), (6, .getfield 15), (9, .isub), (10, .if_icmp .le 5), (13, .iconst 0), (14, .ireturn), (15, .aload_n 1), (16, .aload_n 0), (17, .getfield 9), (20, .aload_n 0), (21, .getfield 15), (24, .aload_n 0), (25, .getfield 15), (28, .iload_n 2), (29, .iadd), (30, .invokevirtual 36), (33, .aload_n 0), (34, .dup), (35, .getfield 15), (38, .iload_n 2), (39, .iadd), (40, .putfield 15), (43, .iconst 1), (44, .ireturn)]
set_option maxRecDepth 100000 in
theorem kX2_copyTo : chk cX2_copyTo tX2_copyTo = true := by decide +kernel
theorem vX2_copyTo_36 : ∀ w ∈ ([.methodLink RX2 36 yX1_addRange, .instanceMethod yX1_addRange, .selects yX1_addRange.cls yX1_addRange yX1_addRange, .initialized yX1_addRange.cls, .code yX1_addRange cX1_addRange 5 none] : List Cond), w ∈ lw_good := List.forall_mem_cons.mpr ⟨mgd 1522 (by decide +kernel) (by decide +kernel), List.forall_mem_cons.mpr ⟨mgd 1433 (by decide +kernel) (by decide +kernel), List.forall_mem_cons.mpr ⟨mgd 1434 (by decide +kernel) (by decide +kernel), List.forall_mem_cons.mpr ⟨mgd 122 (by decide +kernel) (by decide +kernel), List.forall_mem_cons.mpr ⟨mgd 1435 (by decide +kernel) (by decide +kernel), fun _ h => absurd h List.not_mem_nil⟩⟩⟩⟩⟩
set_option maxRecDepth 100000 in
set_option maxHeartbeats 2000000 in
theorem c_ccpy (l : Launch) : ∀ (c : Nat) (o : Nat) (n : Nat) (s d p q e : Nat) (B O : List Nat), Ct l yX2_copyTo cX2_copyTo 3 (some .boolean) 4 99 (sp_ccpy c o n s d p q e B O) := by
  intro c o n s d p q e B O
  refine Ct.of (fX2, nX2, aX2, iX2, lX2, [(36, 0, 4, 0, T_brng)], qX2, gX2, []) false tX2_copyTo (fun _ _ _ => none) (by decide) (by decide) kX2_copyTo ⟨_, _, rfl⟩ fX2_ok nX2_ok aX2_ok iX2_ok lX2_ok (fun p e R s m args below meth c Q D cy z r A C hR1 hR2 => List.forall_mem_cons.mpr ⟨cOK_use (fun _ _ _ _ _ _ _ _ h => let ⟨sp, h1, h2, h3⟩ := u_brng l _ _ _ _ _ _ _ _ h; ⟨sp, cOK_V C h1 vX2_copyTo_36 ⟨by decide, by decide, by decide +kernel⟩ ⟨by rw [hR1]; decide, by rw [hR2]; decide⟩ (k := 2) (T := TX1) (N := 3) rfl (by decide) h2, h3⟩), fun _ h => absurd h List.not_mem_nil⟩) qX2_ok gX2_ok rfl ?_ ?_
  · rintro _ S ⟨rfl, hp⟩
    refine ⟨Nat.le_of_ble_eq_true rfl, 300, ?_⟩
    show (isO S 3 c ∧ (isO S 3 c ∧ (((nI n) ≤ ((mI S 302 c) - (mI S 301 c)) → (isO S 3 c ∧ (isO S 3 c ∧ (isO S 3 c ∧ (0 = 0 ∧ ((pa (mR S 300 c) fun a_1 => (∃ (d_2 df_3 : Nat) (B_4 F_5 : List Nat) (i_6 j_7 : Nat), (By S o d_2 B_4 ∧ By S a_1 df_3 F_5 ∧ a_1 ≠ o ∧ df_3 ≠ d_2 ∧ (mI S 301 c) = nI i_6 ∧ ((mI S 301 c) + (nI n)) = nI j_7 ∧ i_6 ≤ 32768 ∧ j_7 ≤ 32768) ∧ 0 + (addNC (rngV F_5 i_6 (j_7 - i_6)).length (mN S d_2) B_4.length) ≤ (if n ≤ q - p then addNC n (mN S e) O.length else 0) ∧ 0 + (addNS (rngV F_5 i_6 (j_7 - i_6)).length (mN S d_2) B_4.length) ≤ (if n ≤ q - p then addNS n (mN S e) O.length else 0) ∧ (∀ (S_8 : MM), (∃ d', App S S_8 o d_2 d' B_4 (rngV F_5 i_6 (j_7 - i_6))) → (isO S_8 3 c ∧ (True ∧ (isO S_8 3 c ∧ (([] : List MV) = [] ∧ mret (some .boolean) (sp_ccpy c o n s d p q e B O) [.inr (.inr (some c)), .inr (.inr (some o)), .inl (nI n)] S (some (.inl (1 : Int32))) (sI S_8 301 c ((mI S_8 301 c) + (nI n))) (0 + (addNC (rngV F_5 i_6 (j_7 - i_6)).length (mN S d_2) B_4.length)) (0 + (addNS (rngV F_5 i_6 (j_7 - i_6)).length (mN S d_2) B_4.length))))))))))))))) ∧ (¬ (nI n) ≤ ((mI S 302 c) - (mI S 301 c)) → (([] : List MV) = [] ∧ mret (some .boolean) (sp_ccpy c o n s d p q e B O) [.inr (.inr (some c)), .inr (.inr (some o)), .inl (nI n)] S (some (.inl (0 : Int32))) S 0 0)))))
    obtain ⟨hC, hB, hO, hso, hde, hn⟩ := hp
    obtain ⟨h1, h2, h3, h4, h5, h6⟩ := id hC
    rw [h3, h4, h2, pk_sub h5]
    refine ⟨h1, h1, if_le hn (by omega) (fun h7 => ⟨h1, h1, h1, rfl, ?_⟩) (fun h7 => ⟨rfl, Or.inl rfl, ⟨0, rfl, Or.inr ⟨rfl, h7, rfl⟩⟩, Nat.zero_le _, Nat.zero_le _⟩)⟩
    rw [nI_add]
    have hr : (rngV B p (p + n - p)).length = n := by rw [rngV_len]; omega
    have hr2 : p + n - p = n := by omega
    refine ⟨e, d, O, B, p, p + n, ⟨hO, hB, hso, hde, rfl, rfl, by omega, by omega⟩, ?_, ?_, fun S2 hA => ?_⟩
    · rw [hr, if_pos h7, Nat.zero_add]; exact Nat.le_refl _
    · rw [hr, if_pos h7, Nat.zero_add]; exact Nat.le_refl _
    · rw [hr2] at hA
      obtain ⟨e', hA⟩ := hA
      have hco : ¬ (c = o ∨ c = e) := fun z => z.elim (isO_ne h1 hO.1 (by decide)) (isO_ne h1 hO.2.2.1 (by decide))
      have hC2 : Cu S2 c s p q := hC.keep hA.2.1 hco
      rw [hC2.2.2.1, nI_add]
      refine ⟨hC2.1, trivial, hC2.1, rfl, Or.inr rfl, ⟨1, rfl, Or.inl ⟨rfl, h7, S2, e', hA, rfl⟩⟩, ?_, ?_⟩
      · show _ ≤ if n ≤ q - p then addNC n (mN S e) O.length else 0
        rw [hr, if_pos h7, Nat.zero_add]; exact Nat.le_refl _
      · show _ ≤ if n ≤ q - p then addNS n (mN S e) O.length else 0
        rw [hr, if_pos h7, Nat.zero_add]; exact Nat.le_refl _
  · exact fun _ _ _ _ _ h => by cases h
theorem u_ccpy (l : Launch) : Us l yX2_copyTo cX2_copyTo 3 (some .boolean) 4 99 3 T_ccpy := by
  intro Rc Rs av S cs sl K Kx h
  unfold T_ccpy at h
  split at h
  · rename_i c_o o_o n_v
    obtain ⟨c, rfl, h_1⟩ := pa_of h
    obtain ⟨o, rfl, h_2⟩ := pa_of h_1
    obtain ⟨n, rfl, h_3⟩ := h_2
    obtain ⟨s, d, p, q, e, B, O, hp, hc, hs, hk⟩ := h_3
    refine ⟨(sp_ccpy c o n s d p q e B O), c_ccpy l c o n s d p q e B O, fun _ _ h9 => ⟨_, _, h9.1, h9.2.1.1⟩, ⟨rfl, hp⟩, hc, hs, fun v9 S' h8 => by
      obtain ⟨v8, h7, h8⟩ := h8
      cases h7
      exact hk _ _ h8, fun _ _ q => q.elim⟩
  · exact h.elim
