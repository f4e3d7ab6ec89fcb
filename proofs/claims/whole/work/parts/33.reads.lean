/-! ===== Graph: what it reads ===== -/
theorem if_10 {P A B : Prop} [Decidable P] (h1 : ¬ P → A) (h2 : P → B) : ((if P then (1 : Int32) else 0) = 0 → A) ∧ (¬ (if P then (1 : Int32) else 0) = 0 → B) := by
  by_cases h : P
  · rw [if_pos h]; exact ⟨fun z => absurd z (by decide), fun _ => h2 h⟩
  · rw [if_neg h]; exact ⟨fun _ => h1 h, fun z => absurd rfl z⟩
theorem chn.no {S : MM} {R : List Nat} (h : chn S none R) : R = [] := by
  cases R with
  | nil => rfl
  | cons v R => obtain ⟨q, -⟩ := h; cases q
theorem chn.nd {S : MM} {w : Nat} {R : List Nat} (h : chn S (some w) R) : ∃ R2, R = w :: R2 ∧ isO S 5 w ∧ chn S (mR S 512 w) R2 := by
  cases R with
  | nil => cases h
  | cons v R =>
    obtain ⟨q, h1, h2⟩ := h
    cases q
    exact ⟨R, rfl, h1, h2⟩
theorem i32_nn {v : Int32} (h : ¬ v < 0) : ∃ k, k < 2147483648 ∧ v = nI k := by
  refine ⟨v.toNatClampNeg, ?_, ?_⟩
  · have := v.toInt_lt
    unfold Int32.toNatClampNeg
    omega
  · rw [Int32.lt_iff_toInt_lt] at h
    rw [← Int32.toInt_inj]
    have h9 : (0 : Int32).toInt = 0 := rfl
    have := v.toInt_lt
    have e : (v.toNatClampNeg : Int) = v.toInt := by unfold Int32.toNatClampNeg; omega
    show _ = (Int32.ofNat v.toNatClampNeg).toInt
    rw [Int32.toInt_ofNat_of_lt (by omega), e]
/-- the agents of a graph: Lf i are the events of the agent of id i, in their order -/
def AgT (S : MM) (g ar : Nat) (Lf : Nat → List Nat) : Prop := isO S 6 g ∧ mR S 602 g = some ar ∧ isO S 21 ar ∧ mN S ar = 256 ∧ ∀ i, i < 256 → (eR S ar i = none ∧ Lf i = []) ∨ ∃ a l d c, eR S ar i = some a ∧ isO S 1 a ∧ mR S 102 a = some l ∧ AL S l d c 5 (Lf i)
def T_gcof : TR := fun Rc Rs av S cs sl K _Kx => match av with
  | [.inr (.inr g_o), .inl i_v] => pa g_o fun g => (∃ (i : Nat), i_v = nI i ∧ (∃ (ar : Nat) (Lf : Nat → List Nat), (AgT S g ar Lf ∧ i < 256) ∧ cs ≤ Rc ∧ sl ≤ Rs ∧ (K (some (.inl (nI (Lf i).length))) S cs sl)))
  | _ => False
def sp_gcof (g : Nat) (i : Nat) (ar : Nat) (Lf : Nat → List Nat) : Sp := (fun av S => av = [.inr (.inr (some g)), .inl (nI i)] ∧ (AgT S g ar Lf ∧ i < 256), fun _ S => 0, fun _ S => 0, fun _ S rv S' => rv = (some (.inl (nI (Lf i).length))) ∧ S' = S, fun _ _ _ _ => False)
def tX5_countOf : CD := [(0, .aload_n 0), (1, .getfield 32), (4, .iload_n 1), (5, .aaload), (6, .astore_n 2), (7, .aload_n 2), (8, .ifnonnull 7), (11, .iconst 0), (12, .goto 10), (15, .aload_n 2), (16, .getfield 65), (19, .invokevirtual 68), (22, .ireturn)]
set_option maxRecDepth 100000 in
theorem kX5_countOf : chk cX5_countOf tX5_countOf = true := by decide +kernel
theorem vX5_countOf_68 : ∀ w ∈ ([.methodLink RX5 68 yJx4a65c_size_8abf5, .instanceMethod yJx4a65c_size_8abf5, .selects yJx4a65c_size_8abf5.cls yJx4a65c_size_8abf5 yJx4a65c_size_8abf5, .initialized yJx4a65c_size_8abf5.cls, .code yJx4a65c_size_8abf5 cJx4a65c_size_8abf5 1 (some .int)] : List Cond), w ∈ lw_good := List.forall_mem_cons.mpr ⟨mgd 672 (by decide +kernel) (by decide +kernel), List.forall_mem_cons.mpr ⟨mgd 673 (by decide +kernel) (by decide +kernel), List.forall_mem_cons.mpr ⟨mgd 674 (by decide +kernel) (by decide +kernel), List.forall_mem_cons.mpr ⟨mgd 130 (by decide +kernel) (by decide +kernel), List.forall_mem_cons.mpr ⟨mgd 675 (by decide +kernel) (by decide +kernel), fun _ h => absurd h List.not_mem_nil⟩⟩⟩⟩⟩
set_option maxRecDepth 100000 in
set_option maxHeartbeats 2000000 in
theorem c_gcof (l : Launch) : ∀ (g : Nat) (i : Nat) (ar : Nat) (Lf : Nat → List Nat), Ct l yX5_countOf cX5_countOf 3 (some .int) 1 20 (sp_gcof g i ar Lf) := by
  intro g i ar Lf
  refine Ct.of (fX5, nX5, aX5, iX5, lX5, [(68, 0, 1, 1, T_alsz)], qX5, gX5, []) false tX5_countOf (fun _ _ _ => none) (by decide) (by decide) kX5_countOf ⟨_, _, rfl⟩ fX5_ok nX5_ok aX5_ok iX5_ok lX5_ok (fun p e R s m args below meth c Q D cy z r A C hR1 hR2 => List.forall_mem_cons.mpr ⟨cOK_use (fun _ _ _ _ _ _ _ _ h => let ⟨sp, h1, h2, h3⟩ := u_alsz l _ _ _ _ _ _ _ _ h; ⟨sp, cOK_V C h1 vX5_countOf_68 ⟨by decide, by decide, by decide +kernel⟩ ⟨by rw [hR1]; decide, by rw [hR2]; decide⟩ (k := 0) (T := TJx4a65c) (N := 3) rfl (by decide) h2, h3⟩), fun _ h => absurd h List.not_mem_nil⟩) qX5_ok gX5_ok rfl ?_ ?_
  · rintro _ S ⟨rfl, hp⟩
    refine ⟨Nat.le_of_ble_eq_true rfl, 300, ?_⟩
    show (isO S 6 g ∧ (pa (mR S 602 g) fun a_1 => a_1 ∈ mL S ∧ ¬ mK S a_1 < 21 ∧ mK S a_1 < 29 ∧ inR S a_1 (nI i) ∧ ((∀ w_2, (eR S a_1 (nI i).toNatClampNeg) = some w_2 → (pa (eR S a_1 (nI i).toNatClampNeg) fun a_3 => isO S 1 a_3 ∧ (0 = 0 ∧ ((pa (mR S 102 a_3) fun a_4 => (∃ (d_5 c_6 kk_7 : Nat) (L_8 : List Nat), (AL S a_4 d_5 c_6 kk_7 L_8) ∧ 0 ≤ 0 ∧ 0 ≤ 0 ∧ ((([] : List MV) = [] ∧ mret (some .int) (sp_gcof g i ar Lf) [.inr (.inr (some g)), .inl (nI i)] S (some (.inl (nI L_8.length))) S 0 0)))))))) ∧ ((eR S a_1 (nI i).toNatClampNeg) = none → (([] : List MV) = [] ∧ mret (some .int) (sp_gcof g i ar Lf) [.inr (.inr (some g)), .inl (nI i)] S (some (.inl (0 : Int32))) S 0 0)))))
    obtain ⟨⟨h1, h2, h3, h4, h5⟩, h6⟩ := hp
    rw [h2, nI_clamp (by omega)]
    refine ⟨h1, h3.1, by rw [h3.2]; decide, by rw [h3.2]; decide, by rw [inR, h4]; exact vp_in_nI h6 (by decide), ?_⟩
    rcases h5 i h6 with ⟨e1, e2⟩ | ⟨a, l, d, c, e1, e2, e3, e4⟩
    · exact ⟨(fun w hw => by rw [e1] at hw; cases hw), fun _ => ⟨rfl, trivial, ⟨by rw [e2]; rfl, rfl⟩, Nat.le_refl _, Nat.le_refl _⟩⟩
    · refine ⟨fun w hw => ?_, fun hw => by rw [e1] at hw; cases hw⟩
      rw [e1]
      refine ⟨e2, rfl, ?_⟩
      rw [e3]
      exact ⟨d, c, 5, Lf i, e4, Nat.le_refl _, Nat.le_refl _, rfl, trivial, ⟨rfl, rfl⟩, Nat.le_refl _, Nat.le_refl _⟩
  · exact fun _ _ _ _ _ h => by cases h
theorem u_gcof (l : Launch) : Us l yX5_countOf cX5_countOf 3 (some .int) 1 20 6 T_gcof := by
  intro Rc Rs av S cs sl K Kx h
  unfold T_gcof at h
  split at h
  · rename_i g_o i_v
    obtain ⟨g, rfl, h_1⟩ := pa_of h
    obtain ⟨i, rfl, h_2⟩ := h_1
    obtain ⟨ar, Lf, hp, hc, hs, hk⟩ := h_2
    refine ⟨(sp_gcof g i ar Lf), c_gcof l g i ar Lf, fun _ _ h9 => ⟨_, _, h9.1, h9.2.1.1⟩, ⟨rfl, hp⟩, hc, hs, fun v9 S' h8 => by
      obtain ⟨h7, h8⟩ := h8
      cases h7
      subst h8
      exact hk, fun _ _ q => q.elim⟩
  · exact h.elim
def lkp (L : List Nat) (v : Int32) : Option Nat := if v < 0 then none else L[v.toNatClampNeg]?
def T_glkp : TR := fun Rc Rs av S cs sl K _Kx => match av with
  | [.inr (.inr g_o), .inl i_v, .inl v] => pa g_o fun g => (∃ (i : Nat), i_v = nI i ∧ (∃ (ar : Nat) (Lf : Nat → List Nat), (AgT S g ar Lf ∧ i < 256) ∧ cs ≤ Rc ∧ sl ≤ Rs ∧ (K (some (.inr (.inr (lkp (Lf i) v)))) S cs sl)))
  | _ => False
def sp_glkp (g : Nat) (i : Nat) (v : Int32) (ar : Nat) (Lf : Nat → List Nat) : Sp := (fun av S => av = [.inr (.inr (some g)), .inl (nI i), .inl v] ∧ (AgT S g ar Lf ∧ i < 256), fun _ S => 0, fun _ S => 0, fun _ S rv S' => rv = (some (.inr (.inr (lkp (Lf i) v)))) ∧ S' = S, fun _ _ _ _ => False)
def tX5_lookup : CD := [(0, .iload_n 2), (1, .ifCond .lt 12), (4, .iload_n 2), (5, .aload_n 0), (6, .iload_n 1), (7, .invokevirtual 72), (10, .if_icmp .lt 7), (13, .aconst_null), (14, .goto 19), (17, .aload_n 0), (18, .getfield 32), (21, .iload_n 1), (22, .aaload), (23, .getfield 65), (26, .iload_n 2), (27, .invokevirtual 76), (30, .checkcast 9), (33, .areturn)]
set_option maxRecDepth 100000 in
theorem kX5_lookup : chk cX5_lookup tX5_lookup = true := by decide +kernel
theorem vX5_lookup_72 : ∀ w ∈ ([.methodLink RX5 72 yX5_countOf, .instanceMethod yX5_countOf, .selects yX5_countOf.cls yX5_countOf yX5_countOf, .initialized yX5_countOf.cls, .code yX5_countOf cX5_countOf 3 (some .int)] : List Cond), w ∈ lw_good := List.forall_mem_cons.mpr ⟨mgd 668 (by decide +kernel) (by decide +kernel), List.forall_mem_cons.mpr ⟨mgd 669 (by decide +kernel) (by decide +kernel), List.forall_mem_cons.mpr ⟨mgd 670 (by decide +kernel) (by decide +kernel), List.forall_mem_cons.mpr ⟨mgd 125 (by decide +kernel) (by decide +kernel), List.forall_mem_cons.mpr ⟨mgd 671 (by decide +kernel) (by decide +kernel), fun _ h => absurd h List.not_mem_nil⟩⟩⟩⟩⟩
theorem vX5_lookup_76 : ∀ w ∈ ([.methodLink RX5 76 yJx4a65c_get_915e3, .instanceMethod yJx4a65c_get_915e3, .selects yJx4a65c_get_915e3.cls yJx4a65c_get_915e3 yJx4a65c_get_915e3, .initialized yJx4a65c_get_915e3.cls, .code yJx4a65c_get_915e3 cJx4a65c_get_915e3 2 (some (.object "java/lang/Object"))] : List Cond), w ∈ lw_good := List.forall_mem_cons.mpr ⟨mgd 676 (by decide +kernel) (by decide +kernel), List.forall_mem_cons.mpr ⟨mgd 677 (by decide +kernel) (by decide +kernel), List.forall_mem_cons.mpr ⟨mgd 678 (by decide +kernel) (by decide +kernel), List.forall_mem_cons.mpr ⟨mgd 130 (by decide +kernel) (by decide +kernel), List.forall_mem_cons.mpr ⟨mgd 679 (by decide +kernel) (by decide +kernel), fun _ h => absurd h List.not_mem_nil⟩⟩⟩⟩⟩
set_option maxRecDepth 100000 in
set_option maxHeartbeats 2000000 in
theorem c_glkp (l : Launch) : ∀ (g : Nat) (i : Nat) (v : Int32) (ar : Nat) (Lf : Nat → List Nat), Ct l yX5_lookup cX5_lookup 3 (some (.object "WeaveText$Event")) 3 64 (sp_glkp g i v ar Lf) := by
  intro g i v ar Lf
  refine Ct.of (fX5, nX5, aX5, iX5, lX5, [(72, 0, 2, 1, T_gcof), (76, 0, 2, 3, T_alget)], qX5, gX5, []) false tX5_lookup (fun _ _ _ => none) (by decide) (by decide) kX5_lookup ⟨_, _, rfl⟩ fX5_ok nX5_ok aX5_ok iX5_ok lX5_ok (fun p e R s m args below meth c Q D cy z r A C hR1 hR2 => List.forall_mem_cons.mpr ⟨cOK_use (fun _ _ _ _ _ _ _ _ h => let ⟨sp, h1, h2, h3⟩ := u_gcof l _ _ _ _ _ _ _ _ h; ⟨sp, cOK_V C h1 vX5_lookup_72 ⟨by decide, by decide, by decide +kernel⟩ ⟨by rw [hR1]; decide, by rw [hR2]; decide⟩ (k := 6) (T := TX5) (N := 12) rfl (by decide) h2, h3⟩), List.forall_mem_cons.mpr ⟨cOK_use (fun _ _ _ _ _ _ _ _ h => let ⟨sp, h1, h2, h3⟩ := u_alget l _ _ _ _ _ _ _ _ h; ⟨sp, cOK_V C h1 vX5_lookup_76 ⟨by decide, by decide, by decide +kernel⟩ ⟨by rw [hR1]; decide, by rw [hR2]; decide⟩ (k := 0) (T := TJx4a65c) (N := 3) rfl (by decide) h2, h3⟩), fun _ h => absurd h List.not_mem_nil⟩⟩) qX5_ok gX5_ok rfl ?_ ?_
  · rintro _ S ⟨rfl, hp⟩
    refine ⟨Nat.le_of_ble_eq_true rfl, 300, ?_⟩
    show ((v < 0 → (([] : List MV) = [] ∧ mret (some (.object "WeaveText$Event")) (sp_glkp g i v ar Lf) [.inr (.inr (some g)), .inl (nI i), .inl v] S (some (.inr (.inr none))) S 0 0)) ∧ (¬ v < 0 → (0 = 0 ∧ (∃ (i_1 : Nat), nI i = nI i_1 ∧ (∃ (ar_2 : Nat) (Lf_3 : Nat → List Nat), (AgT S g ar_2 Lf_3 ∧ i_1 < 256) ∧ 0 ≤ 0 ∧ 0 ≤ 0 ∧ (((v < (nI (Lf_3 i_1).length) → (isO S 6 g ∧ (pa (mR S 602 g) fun a_5 => a_5 ∈ mL S ∧ ¬ mK S a_5 < 21 ∧ mK S a_5 < 29 ∧ inR S a_5 (nI i) ∧ (pa (eR S a_5 (nI i).toNatClampNeg) fun a_6 => isO S 1 a_6 ∧ (0 = 0 ∧ ((pa (mR S 102 a_6) fun a_7 => (∃ (i_8 : Nat), v = nI i_8 ∧ (∃ (d_9 c_10 kk_11 : Nat) (L_12 : List Nat), (AL S a_7 d_9 c_10 kk_11 L_12 ∧ i_8 < L_12.length) ∧ 0 ≤ 0 ∧ 0 ≤ 0 ∧ (((∀ w_14, (L_12[i_8]?) = some w_14 → isO S 5 w_14) ∧ (([] : List MV) = [] ∧ mret (some (.object "WeaveText$Event")) (sp_glkp g i v ar Lf) [.inr (.inr (some g)), .inl (nI i), .inl v] S (some (.inr (.inr (L_12[i_8]?)))) S 0 0)))))))))))) ∧ (¬ v < (nI (Lf_3 i_1).length) → (([] : List MV) = [] ∧ mret (some (.object "WeaveText$Event")) (sp_glkp g i v ar Lf) [.inr (.inr (some g)), .inl (nI i), .inl v] S (some (.inr (.inr none))) S 0 0)))))))))
    have hp0 := hp
    obtain ⟨⟨h1, h2, h3, h4, h5⟩, h6⟩ := hp
    refine ⟨fun z => ⟨rfl, trivial, ⟨by rw [lkp, if_pos z], rfl⟩, Nat.le_refl _, Nat.le_refl _⟩, fun z => ⟨rfl, i, rfl, ar, Lf, hp0, Nat.le_refl _, Nat.le_refl _, ?_⟩⟩
    obtain ⟨k, hk, rfl⟩ := i32_nn z
    have ek : lkp (Lf i) (nI k) = (Lf i)[k]? := by rw [lkp, if_neg z, nI_clamp hk]
    rcases h5 i h6 with ⟨e1, e2⟩ | ⟨a, l, d, c, e1, e2, e3, e4⟩
    · rw [e2] at ek ⊢
      refine ⟨fun w => ?_, fun _ => ⟨rfl, trivial, ⟨by rw [e2, ek]; rfl, rfl⟩, Nat.le_refl _, Nat.le_refl _⟩⟩
      have := (nI_ltI hk (by decide : (0:Nat) < 2 ^ 31)).1 w
      omega
    · have hl := e4.2.2.2.1
      have hl2 := e4.2.2.2.2.1
      rw [h2, nI_clamp (by omega)]
      refine if_lt hk (by omega) (fun w => ?_) (fun w => ⟨rfl, trivial, ⟨by rw [ek, List.getElem?_eq_none w], rfl⟩, Nat.le_refl _, Nat.le_refl _⟩)
      refine ⟨h1, h3.1, by rw [h3.2]; decide, by rw [h3.2]; decide, by rw [inR, h4]; exact vp_in_nI h6 (by decide), ?_⟩
      rw [e1]
      refine ⟨e2, rfl, ?_⟩
      rw [e3]
      exact ⟨k, rfl, d, c, 5, Lf i, ⟨e4, w⟩, Nat.le_refl _, Nat.le_refl _, fun y hy => e4.el (List.mem_of_getElem? hy), rfl, trivial, ⟨by rw [ek], rfl⟩, Nat.le_refl _, Nat.le_refl _⟩
  · exact fun _ _ _ _ _ h => by cases h
theorem u_glkp (l : Launch) : Us l yX5_lookup cX5_lookup 3 (some (.object "WeaveText$Event")) 3 64 6 T_glkp := by
  intro Rc Rs av S cs sl K Kx h
  unfold T_glkp at h
  split at h
  · rename_i g_o i_v v
    obtain ⟨g, rfl, h_1⟩ := pa_of h
    obtain ⟨i, rfl, h_2⟩ := h_1
    obtain ⟨ar, Lf, hp, hc, hs, hk⟩ := h_2
    refine ⟨(sp_glkp g i v ar Lf), c_glkp l g i v ar Lf, fun _ _ h9 => ⟨_, _, h9.1, h9.2.1.1⟩, ⟨rfl, hp⟩, hc, hs, fun v9 S' h8 => by
      obtain ⟨h7, h8⟩ := h8
      cases h7
      subst h8
      exact hk, fun _ _ q => q.elim⟩
  · exact h.elim
def T_gnew : TR := fun Rc Rs av S cs sl K _Kx => match av with
  | [.inr (.inr g_o)] => pa g_o fun g => (∃ (tk d c : Nat) (L : List Nat), (isO S 6 g ∧ mR S 601 g = some tk ∧ AL S tk d c 5 L) ∧ cs ≤ Rc ∧ sl ≤ Rs ∧ (K (some (.inr (.inr (L.getLast?)))) S cs sl))
  | _ => False
def sp_gnew (g : Nat) (tk d c : Nat) (L : List Nat) : Sp := (fun av S => av = [.inr (.inr (some g))] ∧ (isO S 6 g ∧ mR S 601 g = some tk ∧ AL S tk d c 5 L), fun _ S => 0, fun _ S => 0, fun _ S rv S' => rv = (some (.inr (.inr (L.getLast?)))) ∧ S' = S, fun _ _ _ _ => False)
def tX5_newest : CD := [(0, .aload_n 0), (1, .getfield 28), (4, .invokevirtual 80), (7, .ifCond .eq 7), (10, .aconst_null), (11, .goto 22), (14, .aload_n 0), (15, .getfield 28), (18, .aload_n 0), (19, .getfield 28), (22, .invokevirtual 68), (25, .iconst 1), (26, .isub), (27, .invokevirtual 76), (30, .checkcast 9), (33, .areturn)]
set_option maxRecDepth 100000 in
theorem kX5_newest : chk cX5_newest tX5_newest = true := by decide +kernel
theorem vX5_newest_80 : ∀ w ∈ ([.methodLink RX5 80 yJx4a65c_isEmpty_aae02, .instanceMethod yJx4a65c_isEmpty_aae02, .selects yJx4a65c_isEmpty_aae02.cls yJx4a65c_isEmpty_aae02 yJx4a65c_isEmpty_aae02, .initialized yJx4a65c_isEmpty_aae02.cls, .code yJx4a65c_isEmpty_aae02 cJx4a65c_isEmpty_aae02 1 (some .boolean)] : List Cond), w ∈ lw_good := List.forall_mem_cons.mpr ⟨mgd 1581 (by decide +kernel) (by decide +kernel), List.forall_mem_cons.mpr ⟨mgd 1095 (by decide +kernel) (by decide +kernel), List.forall_mem_cons.mpr ⟨mgd 1096 (by decide +kernel) (by decide +kernel), List.forall_mem_cons.mpr ⟨mgd 130 (by decide +kernel) (by decide +kernel), List.forall_mem_cons.mpr ⟨mgd 1097 (by decide +kernel) (by decide +kernel), fun _ h => absurd h List.not_mem_nil⟩⟩⟩⟩⟩
theorem vX5_newest_68 : ∀ w ∈ ([.methodLink RX5 68 yJx4a65c_size_8abf5, .instanceMethod yJx4a65c_size_8abf5, .selects yJx4a65c_size_8abf5.cls yJx4a65c_size_8abf5 yJx4a65c_size_8abf5, .initialized yJx4a65c_size_8abf5.cls, .code yJx4a65c_size_8abf5 cJx4a65c_size_8abf5 1 (some .int)] : List Cond), w ∈ lw_good := List.forall_mem_cons.mpr ⟨mgd 672 (by decide +kernel) (by decide +kernel), List.forall_mem_cons.mpr ⟨mgd 673 (by decide +kernel) (by decide +kernel), List.forall_mem_cons.mpr ⟨mgd 674 (by decide +kernel) (by decide +kernel), List.forall_mem_cons.mpr ⟨mgd 130 (by decide +kernel) (by decide +kernel), List.forall_mem_cons.mpr ⟨mgd 675 (by decide +kernel) (by decide +kernel), fun _ h => absurd h List.not_mem_nil⟩⟩⟩⟩⟩
theorem vX5_newest_76 : ∀ w ∈ ([.methodLink RX5 76 yJx4a65c_get_915e3, .instanceMethod yJx4a65c_get_915e3, .selects yJx4a65c_get_915e3.cls yJx4a65c_get_915e3 yJx4a65c_get_915e3, .initialized yJx4a65c_get_915e3.cls, .code yJx4a65c_get_915e3 cJx4a65c_get_915e3 2 (some (.object "java/lang/Object"))] : List Cond), w ∈ lw_good := List.forall_mem_cons.mpr ⟨mgd 676 (by decide +kernel) (by decide +kernel), List.forall_mem_cons.mpr ⟨mgd 677 (by decide +kernel) (by decide +kernel), List.forall_mem_cons.mpr ⟨mgd 678 (by decide +kernel) (by decide +kernel), List.forall_mem_cons.mpr ⟨mgd 130 (by decide +kernel) (by decide +kernel), List.forall_mem_cons.mpr ⟨mgd 679 (by decide +kernel) (by decide +kernel), fun _ h => absurd h List.not_mem_nil⟩⟩⟩⟩⟩
set_option maxRecDepth 100000 in
set_option maxHeartbeats 2000000 in
theorem c_gnew (l : Launch) : ∀ (g : Nat) (tk d c : Nat) (L : List Nat), Ct l yX5_newest cX5_newest 1 (some (.object "WeaveText$Event")) 3 64 (sp_gnew g tk d c L) := by
  intro g tk d c L
  refine Ct.of (fX5, nX5, aX5, iX5, lX5, [(80, 0, 1, 1, T_alemp), (68, 0, 1, 1, T_alsz), (76, 0, 2, 3, T_alget)], qX5, gX5, []) false tX5_newest (fun _ _ _ => none) (by decide) (by decide) kX5_newest ⟨_, _, rfl⟩ fX5_ok nX5_ok aX5_ok iX5_ok lX5_ok (fun p e R s m args below meth c Q D cy z r A C hR1 hR2 => List.forall_mem_cons.mpr ⟨cOK_use (fun _ _ _ _ _ _ _ _ h => let ⟨sp, h1, h2, h3⟩ := u_alemp l _ _ _ _ _ _ _ _ h; ⟨sp, cOK_V C h1 vX5_newest_80 ⟨by decide, by decide, by decide +kernel⟩ ⟨by rw [hR1]; decide, by rw [hR2]; decide⟩ (k := 0) (T := TJx4a65c) (N := 3) rfl (by decide) h2, h3⟩), List.forall_mem_cons.mpr ⟨cOK_use (fun _ _ _ _ _ _ _ _ h => let ⟨sp, h1, h2, h3⟩ := u_alsz l _ _ _ _ _ _ _ _ h; ⟨sp, cOK_V C h1 vX5_newest_68 ⟨by decide, by decide, by decide +kernel⟩ ⟨by rw [hR1]; decide, by rw [hR2]; decide⟩ (k := 0) (T := TJx4a65c) (N := 3) rfl (by decide) h2, h3⟩), List.forall_mem_cons.mpr ⟨cOK_use (fun _ _ _ _ _ _ _ _ h => let ⟨sp, h1, h2, h3⟩ := u_alget l _ _ _ _ _ _ _ _ h; ⟨sp, cOK_V C h1 vX5_newest_76 ⟨by decide, by decide, by decide +kernel⟩ ⟨by rw [hR1]; decide, by rw [hR2]; decide⟩ (k := 0) (T := TJx4a65c) (N := 3) rfl (by decide) h2, h3⟩), fun _ h => absurd h List.not_mem_nil⟩⟩⟩) qX5_ok gX5_ok rfl ?_ ?_
  · rintro _ S ⟨rfl, hp⟩
    refine ⟨Nat.le_of_ble_eq_true rfl, 300, ?_⟩
    show (isO S 6 g ∧ (0 = 0 ∧ ((pa (mR S 601 g) fun a_1 => (∃ (d_2 c_3 kk_4 : Nat) (L_5 : List Nat), (AL S a_1 d_2 c_3 kk_4 L_5) ∧ 0 ≤ 0 ∧ 0 ≤ 0 ∧ ((((tf (L_5 = [])) = 0 → (isO S 6 g ∧ (isO S 6 g ∧ (0 = 0 ∧ ((pa (mR S 601 g) fun a_7 => (∃ (d_8 c_9 kk_10 : Nat) (L_11 : List Nat), (AL S a_7 d_8 c_9 kk_10 L_11) ∧ 0 ≤ 0 ∧ 0 ≤ 0 ∧ ((0 = 0 ∧ ((pa (mR S 601 g) fun a_13 => (∃ (i_14 : Nat), (nI L_11.length) - (1 : Int32) = nI i_14 ∧ (∃ (d_15 c_16 kk_17 : Nat) (L_18 : List Nat), (AL S a_13 d_15 c_16 kk_17 L_18 ∧ i_14 < L_18.length) ∧ 0 ≤ 0 ∧ 0 ≤ 0 ∧ (((∀ w_20, (L_18[i_14]?) = some w_20 → isO S 5 w_20) ∧ (([] : List MV) = [] ∧ mret (some (.object "WeaveText$Event")) (sp_gnew g tk d c L) [.inr (.inr (some g))] S (some (.inr (.inr (L_18[i_14]?)))) S 0 0)))))))))))))))) ∧ (¬ (tf (L_5 = [])) = 0 → (([] : List MV) = [] ∧ mret (some (.object "WeaveText$Event")) (sp_gnew g tk d c L) [.inr (.inr (some g))] S (some (.inr (.inr none))) S 0 0)))))))))
    obtain ⟨h1, h2, h3⟩ := hp
    have hl := h3.2.2.2.1
    have hl2 := h3.2.2.2.2.1
    rw [h2]
    refine ⟨h1, rfl, d, c, 5, L, h3, Nat.le_refl _, Nat.le_refl _, if_tf (fun z => ⟨h1, h1, rfl, d, c, 5, L, h3, Nat.le_refl _, Nat.le_refl _, rfl, L.length - 1, ?_, d, c, 5, L, ⟨h3, ?_⟩, Nat.le_refl _, Nat.le_refl _, fun y hy => h3.el (List.mem_of_getElem? hy), rfl, trivial, ⟨?_, rfl⟩, Nat.le_refl _, Nat.le_refl _⟩) (fun z => ⟨rfl, trivial, ⟨by rw [z]; rfl, rfl⟩, Nat.le_refl _, Nat.le_refl _⟩)⟩
    · have : 0 < L.length := by cases L with
        | nil => exact absurd rfl z
        | cons a L => simp
      exact pk_sub (b := 1) (by omega)
    · have : 0 < L.length := by cases L with
        | nil => exact absurd rfl z
        | cons a L => simp
      omega
    · rw [List.getLast?_eq_getElem?]
  · exact fun _ _ _ _ _ h => by cases h
theorem u_gnew (l : Launch) : Us l yX5_newest cX5_newest 1 (some (.object "WeaveText$Event")) 3 64 6 T_gnew := by
  intro Rc Rs av S cs sl K Kx h
  unfold T_gnew at h
  split at h
  · rename_i g_o
    obtain ⟨g, rfl, h_1⟩ := pa_of h
    obtain ⟨tk, d, c, L, hp, hc, hs, hk⟩ := h_1
    refine ⟨(sp_gnew g tk d c L), c_gnew l g tk d c L, fun _ _ h9 => ⟨_, _, h9.1, h9.2.1⟩, ⟨rfl, hp⟩, hc, hs, fun v9 S' h8 => by
      obtain ⟨h7, h8⟩ := h8
      cases h7
      subst h8
      exact hk, fun _ _ q => q.elim⟩
  · exact h.elim
def T_ghr : TR := fun Rc Rs av S cs sl K _Kx => match av with
  | [.inr (.inr g_o), .inl i_v, .inl n_v] => pa g_o fun g => (∃ (i : Nat), i_v = nI i ∧ (∃ (n : Nat), n_v = nI n ∧ (∃ (ar tk d c m : Nat) (Lf : Nat → List Nat) (L : List Nat), (AgT S g ar Lf ∧ i < 256 ∧ mR S 601 g = some tk ∧ AL S tk d c 5 L ∧ mI S 603 g = nI m ∧ m < 2147483648 ∧ n ≤ 1000000) ∧ cs ≤ Rc ∧ sl ≤ Rs ∧ (K (some (.inl (tf (L.length + n ≤ 8192 ∧ (eR S ar i ≠ none ∨ m < 16))))) S cs sl))))
  | _ => False
def sp_ghr (g : Nat) (i : Nat) (n : Nat) (ar tk d c m : Nat) (Lf : Nat → List Nat) (L : List Nat) : Sp := (fun av S => av = [.inr (.inr (some g)), .inl (nI i), .inl (nI n)] ∧ (AgT S g ar Lf ∧ i < 256 ∧ mR S 601 g = some tk ∧ AL S tk d c 5 L ∧ mI S 603 g = nI m ∧ m < 2147483648 ∧ n ≤ 1000000), fun _ S => 0, fun _ S => 0, fun _ S rv S' => rv = (some (.inl (tf (L.length + n ≤ 8192 ∧ (eR S ar i ≠ none ∨ m < 16))))) ∧ S' = S, fun _ _ _ _ => False)
def tX5_hasRoom : CD := [(0, .aload_n 0), (1, .getfield 28), (4, .invokevirtual 68), (7, .iload_n 2), (8, .iadd), (9, .sipush 8192), (12, .if_icmp .gt 25), (15, .aload_n 0), (16, .getfield 32), (19, .iload_n 1), (20, .aaload), (21, .ifnonnull 12), (24, .aload_n 0), (25, .getfield 36), (28, .bipush 16), (30, .if_icmp .ge 7), (33, .iconst 1), (34, .goto 4), (37, .iconst 0), (38, .ireturn)]
set_option maxRecDepth 100000 in
theorem kX5_hasRoom : chk cX5_hasRoom tX5_hasRoom = true := by decide +kernel
theorem vX5_hasRoom_68 : ∀ w ∈ ([.methodLink RX5 68 yJx4a65c_size_8abf5, .instanceMethod yJx4a65c_size_8abf5, .selects yJx4a65c_size_8abf5.cls yJx4a65c_size_8abf5 yJx4a65c_size_8abf5, .initialized yJx4a65c_size_8abf5.cls, .code yJx4a65c_size_8abf5 cJx4a65c_size_8abf5 1 (some .int)] : List Cond), w ∈ lw_good := List.forall_mem_cons.mpr ⟨mgd 672 (by decide +kernel) (by decide +kernel), List.forall_mem_cons.mpr ⟨mgd 673 (by decide +kernel) (by decide +kernel), List.forall_mem_cons.mpr ⟨mgd 674 (by decide +kernel) (by decide +kernel), List.forall_mem_cons.mpr ⟨mgd 130 (by decide +kernel) (by decide +kernel), List.forall_mem_cons.mpr ⟨mgd 675 (by decide +kernel) (by decide +kernel), fun _ h => absurd h List.not_mem_nil⟩⟩⟩⟩⟩
set_option maxRecDepth 100000 in
set_option maxHeartbeats 2000000 in
theorem c_ghr (l : Launch) : ∀ (g : Nat) (i : Nat) (n : Nat) (ar tk d c m : Nat) (Lf : Nat → List Nat) (L : List Nat), Ct l yX5_hasRoom cX5_hasRoom 3 (some .boolean) 1 20 (sp_ghr g i n ar tk d c m Lf L) := by
  intro g i n ar tk d c m Lf L
  refine Ct.of (fX5, nX5, aX5, iX5, lX5, [(68, 0, 1, 1, T_alsz)], qX5, gX5, []) false tX5_hasRoom (fun _ _ _ => none) (by decide) (by decide) kX5_hasRoom ⟨_, _, rfl⟩ fX5_ok nX5_ok aX5_ok iX5_ok lX5_ok (fun p e R s m args below meth c Q D cy z r A C hR1 hR2 => List.forall_mem_cons.mpr ⟨cOK_use (fun _ _ _ _ _ _ _ _ h => let ⟨sp, h1, h2, h3⟩ := u_alsz l _ _ _ _ _ _ _ _ h; ⟨sp, cOK_V C h1 vX5_hasRoom_68 ⟨by decide, by decide, by decide +kernel⟩ ⟨by rw [hR1]; decide, by rw [hR2]; decide⟩ (k := 0) (T := TJx4a65c) (N := 3) rfl (by decide) h2, h3⟩), fun _ h => absurd h List.not_mem_nil⟩) qX5_ok gX5_ok rfl ?_ ?_
  · rintro _ S ⟨rfl, hp⟩
    refine ⟨Nat.le_of_ble_eq_true rfl, 300, ?_⟩
    show (isO S 6 g ∧ (0 = 0 ∧ ((pa (mR S 601 g) fun a_1 => (∃ (d_2 c_3 kk_4 : Nat) (L_5 : List Nat), (AL S a_1 d_2 c_3 kk_4 L_5) ∧ 0 ≤ 0 ∧ 0 ≤ 0 ∧ ((((8192 : Int32) < ((nI L_5.length) + (nI n)) → (([] : List MV) = [] ∧ mret (some .boolean) (sp_ghr g i n ar tk d c m Lf L) [.inr (.inr (some g)), .inl (nI i), .inl (nI n)] S (some (.inl (0 : Int32))) S 0 0)) ∧ (¬ (8192 : Int32) < ((nI L_5.length) + (nI n)) → (isO S 6 g ∧ (pa (mR S 602 g) fun a_7 => a_7 ∈ mL S ∧ ¬ mK S a_7 < 21 ∧ mK S a_7 < 29 ∧ inR S a_7 (nI i) ∧ ((∀ w_8, (eR S a_7 (nI i).toNatClampNeg) = some w_8 → (([] : List MV) = [] ∧ mret (some .boolean) (sp_ghr g i n ar tk d c m Lf L) [.inr (.inr (some g)), .inl (nI i), .inl (nI n)] S (some (.inl (1 : Int32))) S 0 0)) ∧ ((eR S a_7 (nI i).toNatClampNeg) = none → (isO S 6 g ∧ (((16 : Int32) ≤ (mI S 603 g) → (([] : List MV) = [] ∧ mret (some .boolean) (sp_ghr g i n ar tk d c m Lf L) [.inr (.inr (some g)), .inl (nI i), .inl (nI n)] S (some (.inl (0 : Int32))) S 0 0)) ∧ (¬ (16 : Int32) ≤ (mI S 603 g) → (([] : List MV) = [] ∧ mret (some .boolean) (sp_ghr g i n ar tk d c m Lf L) [.inr (.inr (some g)), .inl (nI i), .inl (nI n)] S (some (.inl (1 : Int32))) S 0 0))))))))))))))))
    obtain ⟨⟨h1, h2, h3, h4, h5⟩, h6, h7, h8, h9, h10, h11⟩ := hp
    have hl := h8.2.2.2.1
    have hl2 := h8.2.2.2.2.1
    rw [h7, h2, nI_clamp (n := i) (by omega), h9]
    refine ⟨h1, rfl, d, c, 5, L, h8, Nat.le_refl _, Nat.le_refl _, ?_⟩
    rw [nI_add]
    refine if_lt (a := 8192) (by decide) (by omega) (fun z => ⟨rfl, Or.inl rfl, ⟨ret_f (by omega) rfl, rfl⟩, Nat.le_refl _, Nat.le_refl _⟩) (fun z => ⟨h1, h3.1, by rw [h3.2]; decide, by rw [h3.2]; decide, by rw [inR, h4]; exact vp_in_nI h6 (by decide), fun w hw => ⟨rfl, Or.inr rfl, ⟨ret_t ⟨z, Or.inl (by rw [hw]; simp)⟩ rfl, rfl⟩, Nat.le_refl _, Nat.le_refl _⟩, fun hw => ⟨h1, if_le (a := 16) (by decide) h10 (fun q => ⟨rfl, Or.inl rfl, ⟨ret_f (fun y => y.2.elim (fun u => u hw) (fun u => by omega)) rfl, rfl⟩, Nat.le_refl _, Nat.le_refl _⟩) (fun q => ⟨rfl, Or.inr rfl, ⟨ret_t ⟨z, Or.inr q⟩ rfl, rfl⟩, Nat.le_refl _, Nat.le_refl _⟩)⟩⟩)
  · exact fun _ _ _ _ _ h => by cases h
theorem u_ghr (l : Launch) : Us l yX5_hasRoom cX5_hasRoom 3 (some .boolean) 1 20 6 T_ghr := by
  intro Rc Rs av S cs sl K Kx h
  unfold T_ghr at h
  split at h
  · rename_i g_o i_v n_v
    obtain ⟨g, rfl, h_1⟩ := pa_of h
    obtain ⟨i, rfl, h_2⟩ := h_1
    obtain ⟨n, rfl, h_3⟩ := h_2
    obtain ⟨ar, tk, d, c, m, Lf, L, hp, hc, hs, hk⟩ := h_3
    refine ⟨(sp_ghr g i n ar tk d c m Lf L), c_ghr l g i n ar tk d c m Lf L, fun _ _ h9 => ⟨_, _, h9.1, h9.2.1.1⟩, ⟨rfl, hp⟩, hc, hs, fun v9 S' h8 => by
      obtain ⟨h7, h8⟩ := h8
      cases h7
      subst h8
      exact hk, fun _ _ q => q.elim⟩
  · exact h.elim
def visb (S : MM) (y : Nat) : Bool := decide (mI S 514 y = -1)
/-- the text that nodes show -/
def txt (S : MM) (R : List Nat) : List Int32 := (R.filter (visb S)).map (mI S 505)
theorem txt_v {S : MM} {y : Nat} {R : List Nat} (h : mI S 514 y = -1) : txt S (y :: R) = mI S 505 y :: txt S R := by
  rw [txt, List.filter_cons, if_pos (show visb S y = true from decide_eq_true h)]; rfl
theorem txt_i {S : MM} {y : Nat} {R : List Nat} (h : ¬ mI S 514 y = -1) : txt S (y :: R) = txt S R := by
  rw [txt, List.filter_cons, if_neg (show ¬ visb S y = true from fun z => h (of_decide_eq_true z))]; rfl
/-- the graph's chain -/
def GCh (S : MM) (g rt : Nat) (R : List Nat) : Prop := isO S 6 g ∧ mR S 600 g = some rt ∧ isO S 5 rt ∧ chn S (mR S 512 rt) R
def lnC : List Int32 → Nat
  | [] => 0
  | c :: T => (if c = 10 then 1 else 0) + lnC T
def I_cl (R0 : List Nat) (S : MM) (t : Nat) : KT := fun lo st S1 cs sl => ∃ p R c, t = R.length ∧ chn S p R ∧ 1 + lnC (txt S R0) = c + lnC (txt S R) ∧ lo = [(2, .inr (.inr p)), (1, .inl (nI c))] ∧ st = [] ∧ S = S1 ∧ cs = 0 ∧ sl = 0
def T_gcl : TR := fun Rc Rs av S cs sl K _Kx => match av with
  | [.inr (.inr g_o)] => pa g_o fun g => (∃ (rt : Nat) (R : List Nat), (GCh S g rt R) ∧ cs ≤ Rc ∧ sl ≤ Rs ∧ (K (some (.inl (nI (1 + lnC (txt S R))))) S cs sl))
  | _ => False
def sp_gcl (g : Nat) (rt : Nat) (R : List Nat) : Sp := (fun av S => av = [.inr (.inr (some g))] ∧ (GCh S g rt R), fun _ S => 0, fun _ S => 0, fun _ S rv S' => rv = (some (.inl (nI (1 + lnC (txt S R))))) ∧ S' = S, fun _ _ _ _ => False)
def tX5_countLines : CD := [(0, .iconst 1), (1, .istore_n 1), (2, .aload_n 0), (3, .getfield 19), (6, .getfield 147), (9, .astore_n 2), (10, .aload_n 2), (11, .ifnull 35), (14, .iload_n 1), (15, .aload_n 2), (16, .invokevirtual 182), (19, .ifCond .eq 16), (22, .aload_n 2), (23, .getfield 239), (26, .bipush 10), (28, .if_icmp .ne 7), (31, .iconst 1), (32, .goto 4), (35, .iconst 0), (36, .iadd), (37, .istore_n 1), (38, .aload_n 2), (39, .getfield 147), (42, .astore_n 2), (43, .goto (-33)), (46, .iload_n 1), (47, .ireturn)]
set_option maxRecDepth 100000 in
theorem kX5_countLines : chk cX5_countLines tX5_countLines = true := by decide +kernel
theorem vX5_countLines_182 : ∀ w ∈ ([.methodLink RX5 182 yX4_isVisible, .instanceMethod yX4_isVisible, .selects yX4_isVisible.cls yX4_isVisible yX4_isVisible, .initialized yX4_isVisible.cls, .code yX4_isVisible cX4_isVisible 1 (some .boolean)] : List Cond), w ∈ lw_good := List.forall_mem_cons.mpr ⟨mgd 944 (by decide +kernel) (by decide +kernel), List.forall_mem_cons.mpr ⟨mgd 945 (by decide +kernel) (by decide +kernel), List.forall_mem_cons.mpr ⟨mgd 946 (by decide +kernel) (by decide +kernel), List.forall_mem_cons.mpr ⟨mgd 126 (by decide +kernel) (by decide +kernel), List.forall_mem_cons.mpr ⟨mgd 947 (by decide +kernel) (by decide +kernel), fun _ h => absurd h List.not_mem_nil⟩⟩⟩⟩⟩
set_option maxRecDepth 100000 in
set_option maxHeartbeats 2000000 in
theorem c_gcl (l : Launch) : ∀ (g : Nat) (rt : Nat) (R : List Nat), Ct l yX5_countLines cX5_countLines 3 (some .int) 1 20 (sp_gcl g rt R) := by
  intro g rt R
  refine Ct.of (fX5, nX5, aX5, iX5, lX5, [(182, 0, 1, 1, T_vis)], qX5, gX5, []) false tX5_countLines (fun _ S => look [(10, ([2,1], I_cl R S))]) (by decide) (by decide) kX5_countLines ⟨_, _, rfl⟩ fX5_ok nX5_ok aX5_ok iX5_ok lX5_ok (fun p e R s m args below meth c Q D cy z r A C hR1 hR2 => List.forall_mem_cons.mpr ⟨cOK_use (fun _ _ _ _ _ _ _ _ h => let ⟨sp, h1, h2, h3⟩ := u_vis l _ _ _ _ _ _ _ _ h; ⟨sp, cOK_V C h1 vX5_countLines_182 ⟨by decide, by decide, by decide +kernel⟩ ⟨by rw [hR1]; decide, by rw [hR2]; decide⟩ (k := 5) (T := TX4) (N := 16) rfl (by decide) h2, h3⟩), fun _ h => absurd h List.not_mem_nil⟩) qX5_ok gX5_ok rfl ?_ ?_
  · rintro _ S ⟨rfl, hp⟩
    refine ⟨Nat.le_of_ble_eq_true rfl, 300, ?_⟩
    show (isO S 6 g ∧ (pa (mR S 600 g) fun a_1 => isO S 5 a_1 ∧ (∃ k1, I_cl R S k1 [(2, .inr (.inr (mR S 512 a_1))), (1, .inl (1 : Int32))] [] S 0 0)))
    obtain ⟨h1, h2, h3, h4⟩ := hp
    rw [h2]
    exact ⟨h1, h3, R.length, mR S 512 rt, R, 1, rfl, h4, rfl, rfl, rfl, rfl, rfl, rfl⟩
  · intro av S hpre pc I hI k lo st S1 cs sl h
    obtain ⟨rfl, hp⟩ := hpre
    have hm := look_in hI
    rw [List.mem_singleton] at hm
    cases hm
    obtain ⟨p, R1, c, rfl, hB, hh, rfl, rfl, rfl, rfl, rfl⟩ := h
    refine ⟨300, ?_⟩
    show ((p = none → (([] : List MV) = [] ∧ mret (some .int) (sp_gcl g rt R) [.inr (.inr (some g))] S (some (.inl (nI c))) S 0 0)) ∧ (∀ w_1, p = some w_1 → (0 = 0 ∧ ((pa p fun a_2 => ((isO S 5 a_2) ∧ 0 ≤ 0 ∧ 0 ≤ 0 ∧ ((((if mI S 514 a_2 = -1 then 1 else 0) = 0 → (pa p fun a_4 => isO S 5 a_4 ∧ (∃ k1, k1 < R1.length ∧ I_cl R S k1 [(2, .inr (.inr (mR S 512 a_4))), (1, .inl ((nI c) + (0 : Int32)))] [] S 0 0))) ∧ (¬ (if mI S 514 a_2 = -1 then 1 else 0) = 0 → (pa p fun a_5 => isO S 5 a_5 ∧ ((¬ (mI S 505 a_5) = (10 : Int32) → (pa p fun a_6 => isO S 5 a_6 ∧ (∃ k1, k1 < R1.length ∧ I_cl R S k1 [(2, .inr (.inr (mR S 512 a_6))), (1, .inl ((nI c) + (0 : Int32)))] [] S 0 0))) ∧ ((mI S 505 a_5) = (10 : Int32) → (pa p fun a_7 => isO S 5 a_7 ∧ (∃ k1, k1 < R1.length ∧ I_cl R S k1 [(2, .inr (.inr (mR S 512 a_7))), (1, .inl ((nI c) + (1 : Int32)))] [] S 0 0))))))))))))))
    refine ⟨fun e => ?_, fun w e => ?_⟩
    · subst e
      rw [hB.no] at hh
      exact ⟨rfl, trivial, ⟨by rw [hh]; rfl, rfl⟩, Nat.le_refl _, Nat.le_refl _⟩
    · subst e
      obtain ⟨R2, rfl, r5, r6⟩ := hB.nd
      refine ⟨rfl, r5, Nat.le_refl _, Nat.le_refl _, if_10 (fun z => ⟨r5, R2.length, by simp, mR S 512 w, R2, c, rfl, r6, ?_, ?_, rfl, rfl, rfl, rfl⟩) (fun z => ⟨r5, fun q => ⟨r5, R2.length, by simp, mR S 512 w, R2, c, rfl, r6, ?_, ?_, rfl, rfl, rfl, rfl⟩, fun q => ⟨r5, R2.length, by simp, mR S 512 w, R2, c + 1, rfl, r6, ?_, ?_, rfl, rfl, rfl, rfl⟩⟩)⟩
      · rw [hh, txt_i z]
      · rw [Int32.add_zero]
      · rw [hh, txt_v z, lnC, if_neg q]; omega
      · rw [Int32.add_zero]
      · rw [hh, txt_v z, lnC, if_pos q]; omega
      · rw [nI_1]
theorem u_gcl (l : Launch) : Us l yX5_countLines cX5_countLines 3 (some .int) 1 20 6 T_gcl := by
  intro Rc Rs av S cs sl K Kx h
  unfold T_gcl at h
  split at h
  · rename_i g_o
    obtain ⟨g, rfl, h_1⟩ := pa_of h
    obtain ⟨rt, R, hp, hc, hs, hk⟩ := h_1
    refine ⟨(sp_gcl g rt R), c_gcl l g rt R, fun _ _ h9 => ⟨_, _, h9.1, h9.2.1⟩, ⟨rfl, hp⟩, hc, hs, fun v9 S' h8 => by
      obtain ⟨h7, h8⟩ := h8
      cases h7
      subst h8
      exact hk, fun _ _ q => q.elim⟩
  · exact h.elim
def lnF (n : Int32) : List Int32 → Nat → Nat → Int32
  | [], l, i => if nI l = n then nI i else -1
  | c :: T, l, i => if nI l < n then lnF n T (if c = 10 then l + 1 else l) (i + 1) else (if nI l = n then nI i else -1)
theorem lnF_stop {n : Int32} {T : List Int32} {l i : Nat} (h : ¬ nI l < n) : lnF n T l i = if nI l = n then nI i else -1 := by
  cases T with
  | nil => rfl
  | cons c T => rw [lnF, if_neg h]
def I_ls (n : Int32) (R0 : List Nat) (S : MM) (t : Nat) : KT := fun lo st S1 cs sl => ∃ p R l i, t = R.length ∧ chn S p R ∧ lnF n (txt S R0) 0 0 = lnF n (txt S R) l i ∧ lo = [(4, .inr (.inr p)), (2, .inl (nI l)), (3, .inl (nI i)), (1, .inl n)] ∧ st = [] ∧ S = S1 ∧ cs = 0 ∧ sl = 0
def T_gls : TR := fun Rc Rs av S cs sl K _Kx => match av with
  | [.inr (.inr g_o), .inl n] => pa g_o fun g => (∃ (rt : Nat) (R : List Nat), (GCh S g rt R) ∧ cs ≤ Rc ∧ sl ≤ Rs ∧ (K (some (.inl (lnF n (txt S R) 0 0))) S cs sl))
  | _ => False
def sp_gls (g : Nat) (n : Int32) (rt : Nat) (R : List Nat) : Sp := (fun av S => av = [.inr (.inr (some g)), .inl n] ∧ (GCh S g rt R), fun _ S => 0, fun _ S => 0, fun _ S rv S' => rv = (some (.inl (lnF n (txt S R) 0 0))) ∧ S' = S, fun _ _ _ _ => False)
def tX5_lineStart : CD := [(0, .iconst 0), (1, .istore_n 2), (2, .iconst 0), (3, .istore_n 3), (4, .aload_n 0), (5, .getfield 19), (8, .getfield 147), (11, .astore 4), (13, .aload 4), (15, .ifnull 47), (18, .iload_n 2), (19, .iload_n 1), (20, .if_icmp .ge 42), (23, .aload 4), (25, .invokevirtual 182), (28, .ifCond .eq 24), (31, .iinc 3 1), (34, .iload_n 2), (35, .aload 4), (37, .getfield 239), (40, .bipush 10), (42, .if_icmp .ne 7), (45, .iconst 1), (46, .goto 4), (49, .iconst 0), (50, .iadd), (51, .istore_n 2), (52, .aload 4), (54, .getfield 147), (57, .astore 4), (59, .goto (-46)), (62, .iload_n 2), (63, .iload_n 1), (64, .if_icmp .ne 7), (67, .iload_n 3), (68, .goto 4), (71, .iconst (-1)), (72, .ireturn)]
set_option maxRecDepth 100000 in
theorem kX5_lineStart : chk cX5_lineStart tX5_lineStart = true := by decide +kernel
theorem vX5_lineStart_182 : ∀ w ∈ ([.methodLink RX5 182 yX4_isVisible, .instanceMethod yX4_isVisible, .selects yX4_isVisible.cls yX4_isVisible yX4_isVisible, .initialized yX4_isVisible.cls, .code yX4_isVisible cX4_isVisible 1 (some .boolean)] : List Cond), w ∈ lw_good := List.forall_mem_cons.mpr ⟨mgd 944 (by decide +kernel) (by decide +kernel), List.forall_mem_cons.mpr ⟨mgd 945 (by decide +kernel) (by decide +kernel), List.forall_mem_cons.mpr ⟨mgd 946 (by decide +kernel) (by decide +kernel), List.forall_mem_cons.mpr ⟨mgd 126 (by decide +kernel) (by decide +kernel), List.forall_mem_cons.mpr ⟨mgd 947 (by decide +kernel) (by decide +kernel), fun _ h => absurd h List.not_mem_nil⟩⟩⟩⟩⟩
set_option maxRecDepth 100000 in
set_option maxHeartbeats 2000000 in
theorem c_gls (l : Launch) : ∀ (g : Nat) (n : Int32) (rt : Nat) (R : List Nat), Ct l yX5_lineStart cX5_lineStart 5 (some .int) 1 20 (sp_gls g n rt R) := by
  intro g n rt R
  refine Ct.of (fX5, nX5, aX5, iX5, lX5, [(182, 0, 1, 1, T_vis)], qX5, gX5, []) false tX5_lineStart (fun _ S => look [(13, ([4,2,3,1], I_ls n R S))]) (by decide) (by decide) kX5_lineStart ⟨_, _, rfl⟩ fX5_ok nX5_ok aX5_ok iX5_ok lX5_ok (fun p e R s m args below meth c Q D cy z r A C hR1 hR2 => List.forall_mem_cons.mpr ⟨cOK_use (fun _ _ _ _ _ _ _ _ h => let ⟨sp, h1, h2, h3⟩ := u_vis l _ _ _ _ _ _ _ _ h; ⟨sp, cOK_V C h1 vX5_lineStart_182 ⟨by decide, by decide, by decide +kernel⟩ ⟨by rw [hR1]; decide, by rw [hR2]; decide⟩ (k := 5) (T := TX4) (N := 16) rfl (by decide) h2, h3⟩), fun _ h => absurd h List.not_mem_nil⟩) qX5_ok gX5_ok rfl ?_ ?_
  · rintro _ S ⟨rfl, hp⟩
    refine ⟨Nat.le_of_ble_eq_true rfl, 300, ?_⟩
    show (isO S 6 g ∧ (pa (mR S 600 g) fun a_1 => isO S 5 a_1 ∧ (∃ k1, I_ls n R S k1 [(4, .inr (.inr (mR S 512 a_1))), (2, .inl (0 : Int32)), (3, .inl (0 : Int32)), (1, .inl n)] [] S 0 0)))
    obtain ⟨h1, h2, h3, h4⟩ := hp
    rw [h2]
    exact ⟨h1, h3, R.length, mR S 512 rt, R, 0, 0, rfl, h4, rfl, rfl, rfl, rfl, rfl, rfl⟩
  · intro av S hpre pc I hI k lo st S1 cs sl h
    obtain ⟨rfl, hp⟩ := hpre
    have hm := look_in hI
    rw [List.mem_singleton] at hm
    cases hm
    obtain ⟨p, R1, l, i, rfl, hB, hh, rfl, rfl, rfl, rfl, rfl⟩ := h
    refine ⟨300, ?_⟩
    show ((p = none → ((¬ (nI l) = n → (([] : List MV) = [] ∧ mret (some .int) (sp_gls g n rt R) [.inr (.inr (some g)), .inl n] S (some (.inl (-1 : Int32))) S 0 0)) ∧ ((nI l) = n → (([] : List MV) = [] ∧ mret (some .int) (sp_gls g n rt R) [.inr (.inr (some g)), .inl n] S (some (.inl (nI i))) S 0 0)))) ∧ (∀ w_1, p = some w_1 → ((n ≤ (nI l) → ((¬ (nI l) = n → (([] : List MV) = [] ∧ mret (some .int) (sp_gls g n rt R) [.inr (.inr (some g)), .inl n] S (some (.inl (-1 : Int32))) S 0 0)) ∧ ((nI l) = n → (([] : List MV) = [] ∧ mret (some .int) (sp_gls g n rt R) [.inr (.inr (some g)), .inl n] S (some (.inl (nI i))) S 0 0)))) ∧ (¬ n ≤ (nI l) → (0 = 0 ∧ ((pa p fun a_2 => ((isO S 5 a_2) ∧ 0 ≤ 0 ∧ 0 ≤ 0 ∧ ((((if mI S 514 a_2 = -1 then 1 else 0) = 0 → (pa p fun a_4 => isO S 5 a_4 ∧ (∃ k1, k1 < R1.length ∧ I_ls n R S k1 [(4, .inr (.inr (mR S 512 a_4))), (2, .inl (nI l)), (3, .inl (nI i)), (1, .inl n)] [] S 0 0))) ∧ (¬ (if mI S 514 a_2 = -1 then 1 else 0) = 0 → (pa p fun a_5 => isO S 5 a_5 ∧ ((¬ (mI S 505 a_5) = (10 : Int32) → (pa p fun a_6 => isO S 5 a_6 ∧ (∃ k1, k1 < R1.length ∧ I_ls n R S k1 [(4, .inr (.inr (mR S 512 a_6))), (2, .inl ((nI l) + (0 : Int32))), (3, .inl ((nI i) + (1 : Int32))), (1, .inl n)] [] S 0 0))) ∧ ((mI S 505 a_5) = (10 : Int32) → (pa p fun a_7 => isO S 5 a_7 ∧ (∃ k1, k1 < R1.length ∧ I_ls n R S k1 [(4, .inr (.inr (mR S 512 a_7))), (2, .inl ((nI l) + (1 : Int32))), (3, .inl ((nI i) + (1 : Int32))), (1, .inl n)] [] S 0 0))))))))))))))))
    have fin : ∀ T : List Int32, lnF n (txt S R) 0 0 = lnF n T l i → (T = [] ∨ ¬ nI l < n) → (¬ (nI l) = n → (([] : List MV) = [] ∧ mret (some .int) (sp_gls g n rt R) [.inr (.inr (some g)), .inl n] S (some (.inl (-1 : Int32))) S 0 0)) ∧ ((nI l) = n → (([] : List MV) = [] ∧ mret (some .int) (sp_gls g n rt R) [.inr (.inr (some g)), .inl n] S (some (.inl (nI i))) S 0 0)) := by
      intro T h1 h2
      have h3 : lnF n T l i = if nI l = n then nI i else -1 := h2.elim (fun z => by rw [z]; rfl) (fun z => lnF_stop z)
      exact ⟨fun z => ⟨rfl, trivial, ⟨by rw [h1, h3, if_neg z], rfl⟩, Nat.le_refl _, Nat.le_refl _⟩, fun z => ⟨rfl, trivial, ⟨by rw [h1, h3, if_pos z], rfl⟩, Nat.le_refl _, Nat.le_refl _⟩⟩
    refine ⟨fun e => ?_, fun w e => ⟨fun z => ?_, fun z => ?_⟩⟩
    · subst e
      rw [hB.no] at hh
      exact fin [] hh (Or.inl rfl)
    · exact fin _ hh (Or.inr (fun q => by rw [Int32.lt_iff_toInt_lt] at q; rw [Int32.le_iff_toInt_le] at z; omega))
    · subst e
      have hlt : nI l < n := by rw [Int32.le_iff_toInt_le] at z; rw [Int32.lt_iff_toInt_lt]; omega
      obtain ⟨R2, rfl, r5, r6⟩ := hB.nd
      refine ⟨rfl, r5, Nat.le_refl _, Nat.le_refl _, if_10 (fun z => ⟨r5, R2.length, by simp, mR S 512 w, R2, l, i, rfl, r6, ?_, rfl, rfl, rfl, rfl, rfl⟩) (fun z => ⟨r5, fun q => ⟨r5, R2.length, by simp, mR S 512 w, R2, l, i + 1, rfl, r6, ?_, ?_, rfl, rfl, rfl, rfl⟩, fun q => ⟨r5, R2.length, by simp, mR S 512 w, R2, l + 1, i + 1, rfl, r6, ?_, ?_, rfl, rfl, rfl, rfl⟩⟩)⟩
      · rw [hh, txt_i z]
      · rw [hh, txt_v z, lnF, if_pos hlt, if_neg q]
      · rw [Int32.add_zero, nI_1]
      · rw [hh, txt_v z, lnF, if_pos hlt, if_pos q]
      · rw [nI_1, nI_1]
theorem u_gls (l : Launch) : Us l yX5_lineStart cX5_lineStart 5 (some .int) 1 20 6 T_gls := by
  intro Rc Rs av S cs sl K Kx h
  unfold T_gls at h
  split at h
  · rename_i g_o n
    obtain ⟨g, rfl, h_1⟩ := pa_of h
    obtain ⟨rt, R, hp, hc, hs, hk⟩ := h_1
    refine ⟨(sp_gls g n rt R), c_gls l g n rt R, fun _ _ h9 => ⟨_, _, h9.1, h9.2.1⟩, ⟨rfl, hp⟩, hc, hs, fun v9 S' h8 => by
      obtain ⟨h7, h8⟩ := h8
      cases h7
      subst h8
      exact hk, fun _ _ q => q.elim⟩
  · exact h.elim
def cif (S : MM) (o : Option Nat) : List Nat → Nat
  | [] => 0
  | y :: R => if some y = o then 0 else (if mI S 514 y = -1 then 1 else 0) + cif S o R
def I_ci (o : Option Nat) (R0 : List Nat) (S : MM) (t : Nat) : KT := fun lo st S1 cs sl => ∃ p R c, t = R.length ∧ chn S p R ∧ cif S o R0 = c + cif S o R ∧ lo = [(3, .inr (.inr p)), (2, .inl (nI c)), (1, .inr (.inr o))] ∧ st = [] ∧ S = S1 ∧ cs = 0 ∧ sl = 0
def T_gci : TR := fun Rc Rs av S cs sl K _Kx => match av with
  | [.inr (.inr g_o), .inr (.inr o)] => pa g_o fun g => (∃ (rt : Nat) (R : List Nat), (GCh S g rt R) ∧ cs ≤ Rc ∧ sl ≤ Rs ∧ (K (some (.inl (nI (cif S o R)))) S cs sl))
  | _ => False
def sp_gci (g : Nat) (o : Option Nat) (rt : Nat) (R : List Nat) : Sp := (fun av S => av = [.inr (.inr (some g)), .inr (.inr o)] ∧ (GCh S g rt R), fun _ S => 0, fun _ S => 0, fun _ S rv S' => rv = (some (.inl (nI (cif S o R)))) ∧ S' = S, fun _ _ _ _ => False)
def tX5_countInFrontOf : CD := [(0, .iconst 0), (1, .istore_n 2), (2, .aload_n 0), (3, .getfield 19), (6, .getfield 147), (9, .astore_n 3), (10, .aload_n 3), (11, .ifnull 31), (14, .aload_n 3), (15, .aload_n 1), (16, .if_acmp .eq 26), (19, .iload_n 2), (20, .aload_n 3), (21, .invokevirtual 182), (24, .ifCond .eq 7), (27, .iconst 1), (28, .goto 4), (31, .iconst 0), (32, .iadd), (33, .istore_n 2), (34, .aload_n 3), (35, .getfield 147), (38, .astore_n 3), (39, .goto (-29)), (42, .iload_n 2), (43, .ireturn)]
set_option maxRecDepth 100000 in
theorem kX5_countInFrontOf : chk cX5_countInFrontOf tX5_countInFrontOf = true := by decide +kernel
theorem vX5_countInFrontOf_182 : ∀ w ∈ ([.methodLink RX5 182 yX4_isVisible, .instanceMethod yX4_isVisible, .selects yX4_isVisible.cls yX4_isVisible yX4_isVisible, .initialized yX4_isVisible.cls, .code yX4_isVisible cX4_isVisible 1 (some .boolean)] : List Cond), w ∈ lw_good := List.forall_mem_cons.mpr ⟨mgd 944 (by decide +kernel) (by decide +kernel), List.forall_mem_cons.mpr ⟨mgd 945 (by decide +kernel) (by decide +kernel), List.forall_mem_cons.mpr ⟨mgd 946 (by decide +kernel) (by decide +kernel), List.forall_mem_cons.mpr ⟨mgd 126 (by decide +kernel) (by decide +kernel), List.forall_mem_cons.mpr ⟨mgd 947 (by decide +kernel) (by decide +kernel), fun _ h => absurd h List.not_mem_nil⟩⟩⟩⟩⟩
set_option maxRecDepth 100000 in
set_option maxHeartbeats 2000000 in
theorem c_gci (l : Launch) : ∀ (g : Nat) (o : Option Nat) (rt : Nat) (R : List Nat), Ct l yX5_countInFrontOf cX5_countInFrontOf 4 (some .int) 1 20 (sp_gci g o rt R) := by
  intro g o rt R
  refine Ct.of (fX5, nX5, aX5, iX5, lX5, [(182, 0, 1, 1, T_vis)], qX5, gX5, []) false tX5_countInFrontOf (fun _ S => look [(10, ([3,2,1], I_ci o R S))]) (by decide) (by decide) kX5_countInFrontOf ⟨_, _, rfl⟩ fX5_ok nX5_ok aX5_ok iX5_ok lX5_ok (fun p e R s m args below meth c Q D cy z r A C hR1 hR2 => List.forall_mem_cons.mpr ⟨cOK_use (fun _ _ _ _ _ _ _ _ h => let ⟨sp, h1, h2, h3⟩ := u_vis l _ _ _ _ _ _ _ _ h; ⟨sp, cOK_V C h1 vX5_countInFrontOf_182 ⟨by decide, by decide, by decide +kernel⟩ ⟨by rw [hR1]; decide, by rw [hR2]; decide⟩ (k := 5) (T := TX4) (N := 16) rfl (by decide) h2, h3⟩), fun _ h => absurd h List.not_mem_nil⟩) qX5_ok gX5_ok rfl ?_ ?_
  · rintro _ S ⟨rfl, hp⟩
    refine ⟨Nat.le_of_ble_eq_true rfl, 300, ?_⟩
    show (isO S 6 g ∧ (pa (mR S 600 g) fun a_1 => isO S 5 a_1 ∧ (∃ k1, I_ci o R S k1 [(3, .inr (.inr (mR S 512 a_1))), (2, .inl (0 : Int32)), (1, .inr (.inr o))] [] S 0 0)))
    obtain ⟨h1, h2, h3, h4⟩ := hp
    rw [h2]
    exact ⟨h1, h3, R.length, mR S 512 rt, R, 0, rfl, h4, (Nat.zero_add _).symm, rfl, rfl, rfl, rfl, rfl⟩
  · intro av S hpre pc I hI k lo st S1 cs sl h
    obtain ⟨rfl, hp⟩ := hpre
    have hm := look_in hI
    rw [List.mem_singleton] at hm
    cases hm
    obtain ⟨p, R1, c, rfl, hB, hh, rfl, rfl, rfl, rfl, rfl⟩ := h
    refine ⟨300, ?_⟩
    show ((p = none → (([] : List MV) = [] ∧ mret (some .int) (sp_gci g o rt R) [.inr (.inr (some g)), .inr (.inr o)] S (some (.inl (nI c))) S 0 0)) ∧ (∀ w_1, p = some w_1 → ((p = o → (([] : List MV) = [] ∧ mret (some .int) (sp_gci g o rt R) [.inr (.inr (some g)), .inr (.inr o)] S (some (.inl (nI c))) S 0 0)) ∧ (¬ p = o → (0 = 0 ∧ ((pa p fun a_2 => ((isO S 5 a_2) ∧ 0 ≤ 0 ∧ 0 ≤ 0 ∧ ((((if mI S 514 a_2 = -1 then 1 else 0) = 0 → (pa p fun a_4 => isO S 5 a_4 ∧ (∃ k1, k1 < R1.length ∧ I_ci o R S k1 [(3, .inr (.inr (mR S 512 a_4))), (2, .inl ((nI c) + (0 : Int32))), (1, .inr (.inr o))] [] S 0 0))) ∧ (¬ (if mI S 514 a_2 = -1 then 1 else 0) = 0 → (pa p fun a_5 => isO S 5 a_5 ∧ (∃ k1, k1 < R1.length ∧ I_ci o R S k1 [(3, .inr (.inr (mR S 512 a_5))), (2, .inl ((nI c) + (1 : Int32))), (1, .inr (.inr o))] [] S 0 0)))))))))))))
    refine ⟨fun e => ?_, fun w e => ⟨fun z => ?_, fun z => ?_⟩⟩
    · subst e
      rw [hB.no] at hh
      exact ⟨rfl, trivial, ⟨by rw [hh]; rfl, rfl⟩, Nat.le_refl _, Nat.le_refl _⟩
    · subst e
      obtain ⟨R2, rfl, r5, r6⟩ := hB.nd
      rw [cif, if_pos z] at hh
      exact ⟨rfl, trivial, ⟨by rw [hh]; rfl, rfl⟩, Nat.le_refl _, Nat.le_refl _⟩
    · subst e
      obtain ⟨R2, rfl, r5, r6⟩ := hB.nd
      rw [cif, if_neg z] at hh
      refine ⟨rfl, r5, Nat.le_refl _, Nat.le_refl _, if_10 (fun z => ⟨r5, R2.length, by simp, mR S 512 w, R2, c, rfl, r6, ?_, ?_, rfl, rfl, rfl, rfl⟩) (fun z => ⟨r5, R2.length, by simp, mR S 512 w, R2, c + 1, rfl, r6, ?_, ?_, rfl, rfl, rfl, rfl⟩)⟩
      · rw [hh, if_neg z]; omega
      · rw [Int32.add_zero]
      · rw [hh, if_pos z]; omega
      · rw [nI_1]
theorem u_gci (l : Launch) : Us l yX5_countInFrontOf cX5_countInFrontOf 4 (some .int) 1 20 6 T_gci := by
  intro Rc Rs av S cs sl K Kx h
  unfold T_gci at h
  split at h
  · rename_i g_o o
    obtain ⟨g, rfl, h_1⟩ := pa_of h
    obtain ⟨rt, R, hp, hc, hs, hk⟩ := h_1
    refine ⟨(sp_gci g o rt R), c_gci l g o rt R, fun _ _ h9 => ⟨_, _, h9.1, h9.2.1⟩, ⟨rfl, hp⟩, hc, hs, fun v9 S' h8 => by
      obtain ⟨h7, h8⟩ := h8
      cases h7
      subst h8
      exact hk, fun _ _ q => q.elim⟩
  · exact h.elim
/-- whether a text begins with the symbols of B from a place on -/
def bgn (B : List Nat) : List Int32 → Nat → Bool
  | [], q => decide (B.length ≤ q)
  | c :: T, q => if B.length ≤ q then true else if symAt B q = c then bgn B T (q + wN c) else false
def I_bg (b d : Nat) (B : List Nat) (R0 : List Nat) (S : MM) (t : Nat) : KT := fun lo st S1 cs sl => ∃ p R q, t = R.length ∧ chn S p R ∧ bgn B (txt S R0) 0 = bgn B (txt S R) q ∧ q ≤ 100000 ∧ lo = [(3, .inr (.inr p)), (2, .inl (nI q)), (1, .inr (.inr (some b)))] ∧ st = [] ∧ S = S1 ∧ cs = 0 ∧ sl = 0
def T_gbg : TR := fun Rc Rs av S cs sl K _Kx => match av with
  | [.inr (.inr o), .inr (.inr b_o)] => pa b_o fun b => (∃ (d : Nat) (B R : List Nat), (chn S o R ∧ By S b d B) ∧ cs ≤ Rc ∧ sl ≤ Rs ∧ (K (some (.inl (tf (bgn B (txt S R) 0 = true)))) S cs sl))
  | _ => False
def sp_gbg (o : Option Nat) (b : Nat) (d : Nat) (B R : List Nat) : Sp := (fun av S => av = [.inr (.inr o), .inr (.inr (some b))] ∧ (chn S o R ∧ By S b d B), fun _ S => 0, fun _ S => 0, fun _ S rv S' => rv = (some (.inl (tf (bgn B (txt S R) 0 = true)))) ∧ S' = S, fun _ _ _ _ => False)
def tX5_beginsAt : CD := [(0, .iconst 0), (1, .istore_n 2), (2, .aload_n 0), (3, .astore_n 3), (4, .aload_n 3), (5, .ifnull 50), (8, .iload_n 2), (9, .aload_n 1), (10, .getfield 242), (13, .if_icmp .ge 42), (16, .aload_n 3), (17, .invokevirtual 182), (20, .ifCond .eq 27), (23, .aload_n 1), (24, .iload_n 2), (25, .invokevirtual 250), (28, .aload_n 3), (29, .getfield 239), (32, .if_icmp .eq 5), (35, .iconst 0), (36, .ireturn), (37, .iload_n 2), (38, .aload_n 3), (39, .getfield 239), (42, .invokestatic 253), (45, .iadd), (46, .istore_n 2), (47, .aload_n 3), (48, .getfield 147), (51, .astore_n 3), (52, .goto (-48)), (55, .iload_n 2), (56, .aload_n 1), (57, .getfield 242), (60, .if_icmp .lt 7), (63, .iconst 1), (64, .goto 4), (67, .iconst 0), (68, .ireturn)]
set_option maxRecDepth 100000 in
theorem kX5_beginsAt : chk cX5_beginsAt tX5_beginsAt = true := by decide +kernel
theorem vX5_beginsAt_182 : ∀ w ∈ ([.methodLink RX5 182 yX4_isVisible, .instanceMethod yX4_isVisible, .selects yX4_isVisible.cls yX4_isVisible yX4_isVisible, .initialized yX4_isVisible.cls, .code yX4_isVisible cX4_isVisible 1 (some .boolean)] : List Cond), w ∈ lw_good := List.forall_mem_cons.mpr ⟨mgd 944 (by decide +kernel) (by decide +kernel), List.forall_mem_cons.mpr ⟨mgd 945 (by decide +kernel) (by decide +kernel), List.forall_mem_cons.mpr ⟨mgd 946 (by decide +kernel) (by decide +kernel), List.forall_mem_cons.mpr ⟨mgd 126 (by decide +kernel) (by decide +kernel), List.forall_mem_cons.mpr ⟨mgd 947 (by decide +kernel) (by decide +kernel), fun _ h => absurd h List.not_mem_nil⟩⟩⟩⟩⟩
theorem vX5_beginsAt_250 : ∀ w ∈ ([.methodLink RX5 250 yX1_symbolAt, .instanceMethod yX1_symbolAt, .selects yX1_symbolAt.cls yX1_symbolAt yX1_symbolAt, .initialized yX1_symbolAt.cls, .code yX1_symbolAt cX1_symbolAt 7 (some .int)] : List Cond), w ∈ lw_good := List.forall_mem_cons.mpr ⟨mgd 1188 (by decide +kernel) (by decide +kernel), List.forall_mem_cons.mpr ⟨mgd 836 (by decide +kernel) (by decide +kernel), List.forall_mem_cons.mpr ⟨mgd 837 (by decide +kernel) (by decide +kernel), List.forall_mem_cons.mpr ⟨mgd 122 (by decide +kernel) (by decide +kernel), List.forall_mem_cons.mpr ⟨mgd 838 (by decide +kernel) (by decide +kernel), fun _ h => absurd h List.not_mem_nil⟩⟩⟩⟩⟩
theorem vX5_beginsAt_253 : ∀ w ∈ ([.methodLink RX5 253 yX1_widthOf, .static yX1_widthOf, .initialized yX1_widthOf.cls, .code yX1_widthOf cX1_widthOf 1 (some .int)] : List Cond), w ∈ lw_good := List.forall_mem_cons.mpr ⟨mgd 1189 (by decide +kernel) (by decide +kernel), List.forall_mem_cons.mpr ⟨mgd 850 (by decide +kernel) (by decide +kernel), List.forall_mem_cons.mpr ⟨mgd 122 (by decide +kernel) (by decide +kernel), List.forall_mem_cons.mpr ⟨mgd 851 (by decide +kernel) (by decide +kernel), fun _ h => absurd h List.not_mem_nil⟩⟩⟩⟩
set_option maxRecDepth 100000 in
set_option maxHeartbeats 2000000 in
theorem c_gbg (l : Launch) : ∀ (o : Option Nat) (b : Nat) (d : Nat) (B R : List Nat), Ct l yX5_beginsAt cX5_beginsAt 4 (some .boolean) 2 47 (sp_gbg o b d B R) := by
  intro o b d B R
  refine Ct.of (fX5, nX5, aX5, iX5, lX5, [(182, 0, 1, 1, T_vis), (250, 0, 2, 1, T_sym), (253, 2, 1, 1, T_wof)], qX5, gX5, []) false tX5_beginsAt (fun _ S => look [(4, ([3,2,1], I_bg b d B R S))]) (by decide) (by decide) kX5_beginsAt ⟨_, _, rfl⟩ fX5_ok nX5_ok aX5_ok iX5_ok lX5_ok (fun p e R s m args below meth c Q D cy z r A C hR1 hR2 => List.forall_mem_cons.mpr ⟨cOK_use (fun _ _ _ _ _ _ _ _ h => let ⟨sp, h1, h2, h3⟩ := u_vis l _ _ _ _ _ _ _ _ h; ⟨sp, cOK_V C h1 vX5_beginsAt_182 ⟨by decide, by decide, by decide +kernel⟩ ⟨by rw [hR1]; decide, by rw [hR2]; decide⟩ (k := 5) (T := TX4) (N := 16) rfl (by decide) h2, h3⟩), List.forall_mem_cons.mpr ⟨cOK_use (fun _ _ _ _ _ _ _ _ h => let ⟨sp, h1, h2, h3⟩ := u_sym l _ _ _ _ _ _ _ _ h; ⟨sp, cOK_V C h1 vX5_beginsAt_250 ⟨by decide, by decide, by decide +kernel⟩ ⟨by rw [hR1]; decide, by rw [hR2]; decide⟩ (k := 2) (T := TX1) (N := 3) rfl (by decide) h2, h3⟩), List.forall_mem_cons.mpr ⟨cOK_use (fun _ _ _ _ _ _ _ _ h => let ⟨sp, h1, _, h3⟩ := u_wof l _ _ _ _ _ _ _ _ h; ⟨sp, cOK_S C h1 vX5_beginsAt_253 ⟨by decide, by decide, by decide +kernel⟩ ⟨by rw [hR1]; decide, by rw [hR2]; decide⟩, h3⟩), fun _ h => absurd h List.not_mem_nil⟩⟩⟩) qX5_ok gX5_ok rfl ?_ ?_
  · rintro _ S ⟨rfl, hp⟩
    refine ⟨Nat.le_of_ble_eq_true rfl, 300, ?_⟩
    show (∃ k1, I_bg b d B R S k1 [(3, .inr (.inr o)), (2, .inl (0 : Int32)), (1, .inr (.inr (some b)))] [] S 0 0)
    exact ⟨R.length, o, R, 0, rfl, hp.1, rfl, by decide, rfl, rfl, rfl, rfl, rfl⟩
  · intro av S hpre pc I hI k lo st S1 cs sl h
    obtain ⟨rfl, hp⟩ := hpre
    have hm := look_in hI
    rw [List.mem_singleton] at hm
    cases hm
    obtain ⟨p, R1, q, rfl, hB, hh, hq, rfl, rfl, rfl, rfl, rfl⟩ := h
    refine ⟨300, ?_⟩
    show ((p = none → (isO S 2 b ∧ (((nI q) < (mI S 201 b) → (([] : List MV) = [] ∧ mret (some .boolean) (sp_gbg o b d B R) [.inr (.inr o), .inr (.inr (some b))] S (some (.inl (0 : Int32))) S 0 0)) ∧ (¬ (nI q) < (mI S 201 b) → (([] : List MV) = [] ∧ mret (some .boolean) (sp_gbg o b d B R) [.inr (.inr o), .inr (.inr (some b))] S (some (.inl (1 : Int32))) S 0 0))))) ∧ (∀ w_1, p = some w_1 → (isO S 2 b ∧ (((mI S 201 b) ≤ (nI q) → (isO S 2 b ∧ (((nI q) < (mI S 201 b) → (([] : List MV) = [] ∧ mret (some .boolean) (sp_gbg o b d B R) [.inr (.inr o), .inr (.inr (some b))] S (some (.inl (0 : Int32))) S 0 0)) ∧ (¬ (nI q) < (mI S 201 b) → (([] : List MV) = [] ∧ mret (some .boolean) (sp_gbg o b d B R) [.inr (.inr o), .inr (.inr (some b))] S (some (.inl (1 : Int32))) S 0 0))))) ∧ (¬ (mI S 201 b) ≤ (nI q) → (0 = 0 ∧ ((pa p fun a_2 => ((isO S 5 a_2) ∧ 0 ≤ 0 ∧ 0 ≤ 0 ∧ ((((if mI S 514 a_2 = -1 then 1 else 0) = 0 → (pa p fun a_4 => isO S 5 a_4 ∧ (∃ k1, k1 < R1.length ∧ I_bg b d B R S k1 [(3, .inr (.inr (mR S 512 a_4))), (2, .inl (nI q)), (1, .inr (.inr (some b)))] [] S 0 0))) ∧ (¬ (if mI S 514 a_2 = -1 then 1 else 0) = 0 → (0 = 0 ∧ (∃ (n_5 : Nat), nI q = nI n_5 ∧ (∃ (d_6 : Nat) (B_7 : List Nat), (By S b d_6 B_7 ∧ n_5 ≤ 1000000) ∧ 0 ≤ 0 ∧ 0 ≤ 0 ∧ ((pa p fun a_9 => isO S 5 a_9 ∧ (((symAt B_7 n_5) = (mI S 505 a_9) → (pa p fun a_10 => isO S 5 a_10 ∧ (2 = 2 ∧ (True ∧ 0 ≤ 0 ∧ 0 ≤ 0 ∧ ((pa p fun a_12 => isO S 5 a_12 ∧ (∃ k1, k1 < R1.length ∧ I_bg b d B R S k1 [(3, .inr (.inr (mR S 512 a_12))), (2, .inl ((nI q) + (wOf (mI S 505 a_10)))), (1, .inr (.inr (some b)))] [] S 0 0))))))) ∧ (¬ (symAt B_7 n_5) = (mI S 505 a_9) → (([] : List MV) = [] ∧ mret (some .boolean) (sp_gbg o b d B R) [.inr (.inr o), .inr (.inr (some b))] S (some (.inl (0 : Int32))) S 0 0))))))))))))))))))))
    obtain ⟨h1, hY⟩ := hp
    have hl := hY.len
    rw [hY.2.2.2.1]
    have no : bgn B (txt S R1) q = false → mret (some .boolean) (sp_gbg o b d B R) [.inr (.inr o), .inr (.inr (some b))] S (some (.inl (0 : Int32))) S 0 0 := fun z => ⟨Or.inl rfl, ⟨ret_f (by rw [hh, z]; exact Bool.false_ne_true) rfl, rfl⟩, Nat.le_refl _, Nat.le_refl _⟩
    have yes : bgn B (txt S R1) q = true → mret (some .boolean) (sp_gbg o b d B R) [.inr (.inr o), .inr (.inr (some b))] S (some (.inl (1 : Int32))) S 0 0 := fun z => ⟨Or.inr rfl, ⟨ret_t (by rw [hh, z]) rfl, rfl⟩, Nat.le_refl _, Nat.le_refl _⟩
    refine ⟨fun e => ⟨hY.1, if_lt (by omega) (by omega) (fun z => ⟨rfl, no ?_⟩) (fun z => ⟨rfl, yes ?_⟩)⟩, fun w e => ⟨hY.1, if_le (by omega) (by omega) (fun z => ⟨hY.1, if_lt (by omega) (by omega) (fun z => by omega) (fun _ => ⟨rfl, yes ?_⟩)⟩) (fun z => ?_)⟩⟩
    · subst e
      rw [hB.no]
      exact decide_eq_false (by omega)
    · subst e
      rw [hB.no]
      exact decide_eq_true z
    · cases h9 : txt S R1 with
      | nil => exact decide_eq_true z
      | cons c T => rw [bgn, if_pos z]
    · subst e
      obtain ⟨R2, rfl, r5, r6⟩ := hB.nd
      refine ⟨rfl, r5, Nat.le_refl _, Nat.le_refl _, if_10 (fun y => ⟨r5, R2.length, by simp, mR S 512 w, R2, q, rfl, r6, ?_, hq, rfl, rfl, rfl, rfl, rfl⟩) (fun y => ⟨rfl, q, rfl, d, B, ⟨hY, by omega⟩, Nat.le_refl _, Nat.le_refl _, r5, fun u => ⟨r5, rfl, trivial, Nat.le_refl _, Nat.le_refl _, r5, R2.length, by simp, mR S 512 w, R2, q + wN (mI S 505 w), rfl, r6, ?_, ?_, ?_, rfl, rfl, rfl, rfl⟩, fun u => ⟨rfl, no ?_⟩⟩)⟩
      · rw [hh, txt_i y]
      · rw [hh, txt_v y, bgn, if_neg (by omega), if_pos u]
      · have := wN_le (mI S 505 w); omega
      · rw [wOf_N, nI_add]
      · rw [txt_v y, bgn, if_neg (by omega), if_neg u]
theorem u_gbg (l : Launch) : Us l yX5_beginsAt cX5_beginsAt 4 (some .boolean) 2 47 99 T_gbg := by
  intro Rc Rs av S cs sl K Kx h
  unfold T_gbg at h
  split at h
  · rename_i o b_o
    obtain ⟨b, rfl, h_1⟩ := pa_of h
    obtain ⟨d, B, R, hp, hc, hs, hk⟩ := h_1
    refine ⟨(sp_gbg o b d B R), c_gbg l o b d B R, fun _ _ _ => trivial, ⟨rfl, hp⟩, hc, hs, fun v9 S' h8 => by
      obtain ⟨h7, h8⟩ := h8
      cases h7
      subst h8
      exact hk, fun _ _ q => q.elim⟩
  · exact h.elim
def srch (B : List Nat) (f : Nat) : List Int32 → Nat → Int32
  | [], _ => -1
  | c :: T, i => if f ≤ i ∧ bgn B (c :: T) 0 = true then nI i else srch B f T (i + 1)
/-- where a pattern is found first, from a place on -/
def findT (B : List Nat) (f : Nat) (T : List Int32) : Int32 := if B = [] then nI f else srch B f T 0
def I_sr (b f : Nat) (B R0 : List Nat) (S : MM) (t : Nat) : KT := fun lo st S1 cs sl => ∃ p R i, t = R.length ∧ chn S p R ∧ findT B f (txt S R0) = srch B f (txt S R) i ∧ i + R.length ≤ R0.length ∧ lo = [(4, .inr (.inr p)), (3, .inl (nI i)), (1, .inr (.inr (some b))), (2, .inl (nI f))] ∧ st = [] ∧ S = S1 ∧ cs = 0 ∧ sl = 0
def T_gsr : TR := fun Rc Rs av S cs sl K _Kx => match av with
  | [.inr (.inr g_o), .inr (.inr b_o), .inl f_v] => pa g_o fun g => (pa b_o fun b => (∃ (f : Nat), f_v = nI f ∧ (∃ (rt d : Nat) (B R : List Nat), (GCh S g rt R ∧ By S b d B ∧ f < 2147483648 ∧ R.length < 2147483648) ∧ cs ≤ Rc ∧ sl ≤ Rs ∧ (K (some (.inl (findT B f (txt S R)))) S cs sl))))
  | _ => False
def sp_gsr (g : Nat) (b : Nat) (f : Nat) (rt d : Nat) (B R : List Nat) : Sp := (fun av S => av = [.inr (.inr (some g)), .inr (.inr (some b)), .inl (nI f)] ∧ (GCh S g rt R ∧ By S b d B ∧ f < 2147483648 ∧ R.length < 2147483648), fun _ S => 0, fun _ S => 0, fun _ S rv S' => rv = (some (.inl (findT B f (txt S R)))) ∧ S' = S, fun _ _ _ _ => False)
def tX5_search : CD := [(0, .aload_n 1), (1, .getfield 242), (4, .ifCond .ne 5), (7, .iload_n 2), (8, .ireturn), (9, .iconst 0), (10, .istore_n 3), (11, .aload_n 0), (12, .getfield 19), (15, .getfield 147), (18, .astore 4), (20, .aload 4), (22, .ifnull 40), (25, .aload 4), (27, .invokevirtual 182), (30, .ifCond .eq 22), (33, .iload_n 3), (34, .iload_n 2), (35, .if_icmp .lt 14), (38, .aload 4), (40, .aload_n 1), (41, .invokestatic 246), (44, .ifCond .eq 5), (47, .iload_n 3), (48, .ireturn), (49, .iinc 3 1), (52, .aload 4), (54, .getfield 147), (57, .astore 4), (59, .goto (-39)), (62, .iconst (-1)), (63, .ireturn)]
set_option maxRecDepth 100000 in
theorem kX5_search : chk cX5_search tX5_search = true := by decide +kernel
theorem vX5_search_182 : ∀ w ∈ ([.methodLink RX5 182 yX4_isVisible, .instanceMethod yX4_isVisible, .selects yX4_isVisible.cls yX4_isVisible yX4_isVisible, .initialized yX4_isVisible.cls, .code yX4_isVisible cX4_isVisible 1 (some .boolean)] : List Cond), w ∈ lw_good := List.forall_mem_cons.mpr ⟨mgd 944 (by decide +kernel) (by decide +kernel), List.forall_mem_cons.mpr ⟨mgd 945 (by decide +kernel) (by decide +kernel), List.forall_mem_cons.mpr ⟨mgd 946 (by decide +kernel) (by decide +kernel), List.forall_mem_cons.mpr ⟨mgd 126 (by decide +kernel) (by decide +kernel), List.forall_mem_cons.mpr ⟨mgd 947 (by decide +kernel) (by decide +kernel), fun _ h => absurd h List.not_mem_nil⟩⟩⟩⟩⟩
theorem vX5_search_246 : ∀ w ∈ ([.methodLink RX5 246 yX5_beginsAt, .static yX5_beginsAt, .initialized yX5_beginsAt.cls, .code yX5_beginsAt cX5_beginsAt 4 (some .boolean)] : List Cond), w ∈ lw_good := List.forall_mem_cons.mpr ⟨mgd 1185 (by decide +kernel) (by decide +kernel), List.forall_mem_cons.mpr ⟨mgd 1186 (by decide +kernel) (by decide +kernel), List.forall_mem_cons.mpr ⟨mgd 125 (by decide +kernel) (by decide +kernel), List.forall_mem_cons.mpr ⟨mgd 1187 (by decide +kernel) (by decide +kernel), fun _ h => absurd h List.not_mem_nil⟩⟩⟩⟩
set_option maxRecDepth 100000 in
set_option maxHeartbeats 2000000 in
theorem c_gsr (l : Launch) : ∀ (g : Nat) (b : Nat) (f : Nat) (rt d : Nat) (B R : List Nat), Ct l yX5_search cX5_search 5 (some .int) 3 70 (sp_gsr g b f rt d B R) := by
  intro g b f rt d B R
  refine Ct.of (fX5, nX5, aX5, iX5, lX5, [(182, 0, 1, 1, T_vis), (246, 2, 2, 1, T_gbg)], qX5, gX5, []) false tX5_search (fun _ S => look [(20, ([4,3,1,2], I_sr b f B R S))]) (by decide) (by decide) kX5_search ⟨_, _, rfl⟩ fX5_ok nX5_ok aX5_ok iX5_ok lX5_ok (fun p e R s m args below meth c Q D cy z r A C hR1 hR2 => List.forall_mem_cons.mpr ⟨cOK_use (fun _ _ _ _ _ _ _ _ h => let ⟨sp, h1, h2, h3⟩ := u_vis l _ _ _ _ _ _ _ _ h; ⟨sp, cOK_V C h1 vX5_search_182 ⟨by decide, by decide, by decide +kernel⟩ ⟨by rw [hR1]; decide, by rw [hR2]; decide⟩ (k := 5) (T := TX4) (N := 16) rfl (by decide) h2, h3⟩), List.forall_mem_cons.mpr ⟨cOK_use (fun _ _ _ _ _ _ _ _ h => let ⟨sp, h1, _, h3⟩ := u_gbg l _ _ _ _ _ _ _ _ h; ⟨sp, cOK_S C h1 vX5_search_246 ⟨by decide, by decide, by decide +kernel⟩ ⟨by rw [hR1]; decide, by rw [hR2]; decide⟩, h3⟩), fun _ h => absurd h List.not_mem_nil⟩⟩) qX5_ok gX5_ok rfl ?_ ?_
  · rintro _ S ⟨rfl, hp⟩
    refine ⟨Nat.le_of_ble_eq_true rfl, 300, ?_⟩
    show (isO S 2 b ∧ ((¬ (mI S 201 b) = 0 → (isO S 6 g ∧ (pa (mR S 600 g) fun a_1 => isO S 5 a_1 ∧ (∃ k1, I_sr b f B R S k1 [(4, .inr (.inr (mR S 512 a_1))), (3, .inl (0 : Int32)), (1, .inr (.inr (some b))), (2, .inl (nI f))] [] S 0 0)))) ∧ ((mI S 201 b) = 0 → (([] : List MV) = [] ∧ mret (some .int) (sp_gsr g b f rt d B R) [.inr (.inr (some g)), .inr (.inr (some b)), .inl (nI f)] S (some (.inl (nI f))) S 0 0))))
    obtain ⟨⟨h1, h2, h3, h4⟩, hY, h6, h7⟩ := hp
    have hl := hY.len
    rw [hY.2.2.2.1, h2]
    refine ⟨hY.1, if_ne (b := 0) (by omega) (by decide) (fun z => ⟨h1, h3, R.length, mR S 512 rt, R, 0, rfl, h4, ?_, by omega, rfl, rfl, rfl, rfl, rfl⟩) (fun z => ⟨rfl, trivial, ⟨?_, rfl⟩, Nat.le_refl _, Nat.le_refl _⟩)⟩
    · rw [findT, if_neg (fun e => z (by rw [e]; rfl))]
    · rw [findT, if_pos (List.eq_nil_of_length_eq_zero z)]
  · intro av S hpre pc I hI k lo st S1 cs sl h
    obtain ⟨rfl, hp⟩ := hpre
    have hm := look_in hI
    rw [List.mem_singleton] at hm
    cases hm
    obtain ⟨p, R1, i, rfl, hB, hh, hi, rfl, rfl, rfl, rfl, rfl⟩ := h
    refine ⟨300, ?_⟩
    show ((p = none → (([] : List MV) = [] ∧ mret (some .int) (sp_gsr g b f rt d B R) [.inr (.inr (some g)), .inr (.inr (some b)), .inl (nI f)] S (some (.inl (-1 : Int32))) S 0 0)) ∧ (∀ w_1, p = some w_1 → (0 = 0 ∧ ((pa p fun a_2 => ((isO S 5 a_2) ∧ 0 ≤ 0 ∧ 0 ≤ 0 ∧ ((((if mI S 514 a_2 = -1 then 1 else 0) = 0 → (pa p fun a_4 => isO S 5 a_4 ∧ (∃ k1, k1 < R1.length ∧ I_sr b f B R S k1 [(4, .inr (.inr (mR S 512 a_4))), (3, .inl (nI i)), (1, .inr (.inr (some b))), (2, .inl (nI f))] [] S 0 0))) ∧ (¬ (if mI S 514 a_2 = -1 then 1 else 0) = 0 → (((nI i) < (nI f) → (pa p fun a_5 => isO S 5 a_5 ∧ (∃ k1, k1 < R1.length ∧ I_sr b f B R S k1 [(4, .inr (.inr (mR S 512 a_5))), (3, .inl ((nI i) + (1 : Int32))), (1, .inr (.inr (some b))), (2, .inl (nI f))] [] S 0 0))) ∧ (¬ (nI i) < (nI f) → (2 = 2 ∧ (∃ (d_6 : Nat) (B_7 R_8 : List Nat), (chn S p R_8 ∧ By S b d_6 B_7) ∧ 0 ≤ 0 ∧ 0 ≤ 0 ∧ ((((tf (bgn B_7 (txt S R_8) 0 = true)) = 0 → (pa p fun a_10 => isO S 5 a_10 ∧ (∃ k1, k1 < R1.length ∧ I_sr b f B R S k1 [(4, .inr (.inr (mR S 512 a_10))), (3, .inl ((nI i) + (1 : Int32))), (1, .inr (.inr (some b))), (2, .inl (nI f))] [] S 0 0))) ∧ (¬ (tf (bgn B_7 (txt S R_8) 0 = true)) = 0 → (([] : List MV) = [] ∧ mret (some .int) (sp_gsr g b f rt d B R) [.inr (.inr (some g)), .inr (.inr (some b)), .inl (nI f)] S (some (.inl (nI i))) S 0 0)))))))))))))))))
    obtain ⟨⟨h1, h2, h3, h4⟩, hY, h6, h7⟩ := hp
    refine ⟨fun e => ?_, fun w e => ?_⟩
    · subst e
      rw [hB.no] at hh
      exact ⟨rfl, trivial, ⟨by rw [hh]; rfl, rfl⟩, Nat.le_refl _, Nat.le_refl _⟩
    · subst e
      have hB0 := hB
      obtain ⟨R2, rfl, r5, r6⟩ := hB.nd
      rw [List.length_cons] at hi
      refine ⟨rfl, r5, Nat.le_refl _, Nat.le_refl _, if_10 (fun y => ⟨r5, R2.length, by simp, mR S 512 w, R2, i, rfl, r6, ?_, by omega, rfl, rfl, rfl, rfl, rfl⟩) (fun y => if_lt (by omega) h6 (fun z => ⟨r5, R2.length, by simp, mR S 512 w, R2, i + 1, rfl, r6, ?_, by omega, ?_, rfl, rfl, rfl, rfl⟩) (fun z => ⟨rfl, d, B, w :: R2, ⟨hB0, hY⟩, Nat.le_refl _, Nat.le_refl _, if_tf (fun u => ⟨r5, R2.length, by simp, mR S 512 w, R2, i + 1, rfl, r6, ?_, by omega, ?_, rfl, rfl, rfl, rfl⟩) (fun u => ⟨rfl, trivial, ⟨?_, rfl⟩, Nat.le_refl _, Nat.le_refl _⟩)⟩))⟩
      · rw [hh, txt_i y]
      · rw [hh, txt_v y, srch, if_neg (by omega)]
      · rw [nI_1]
      · rw [hh, txt_v y, srch, if_neg (fun v => u (by rw [txt_v y]; exact v.2))]
      · rw [nI_1]
      · rw [hh, txt_v y, srch, if_pos ⟨z, by rw [← txt_v y]; exact u⟩]
theorem u_gsr (l : Launch) : Us l yX5_search cX5_search 5 (some .int) 3 70 6 T_gsr := by
  intro Rc Rs av S cs sl K Kx h
  unfold T_gsr at h
  split at h
  · rename_i g_o b_o f_v
    obtain ⟨g, rfl, h_1⟩ := pa_of h
    obtain ⟨b, rfl, h_2⟩ := pa_of h_1
    obtain ⟨f, rfl, h_3⟩ := h_2
    obtain ⟨rt, d, B, R, hp, hc, hs, hk⟩ := h_3
    refine ⟨(sp_gsr g b f rt d B R), c_gsr l g b f rt d B R, fun _ _ h9 => ⟨_, _, h9.1, h9.2.1.1⟩, ⟨rfl, hp⟩, hc, hs, fun v9 S' h8 => by
      obtain ⟨h7, h8⟩ := h8
      cases h7
      subst h8
      exact hk, fun _ _ q => q.elim⟩
  · exact h.elim
