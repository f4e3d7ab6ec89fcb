/-! ===== Peer: hasRoom, latestEdit ===== -/
def T_phr : TR := fun Rc Rs av S cs sl K _Kx => match av with
  | [.inr (.inr b_o), .inl n_v] => pa b_o fun b => (∃ (n : Nat), n_v = nI n ∧ (∃ (p : Nat) (F : Nat → Nat × Nat) (i : Nat) (A : Nat → Nat) (X : GX) (G : Gr) (T : Tr) (H : List Nat) (W : Nat → Nat), (isO S 11 b ∧ mI S 1100 b = nI p ∧ mR S 1101 b = some (A 0) ∧ GI S F i A X G T H W ∧ p < 256 ∧ n ≤ 1000000) ∧ cs ≤ Rc ∧ sl ≤ Rs ∧ (K (some (.inl (tf (n = 0 ∨ (G.n + n ≤ 8192 ∧ (hasAg G p ∨ G.m < 16)))))) S cs sl)))
  | _ => False
def sp_phr (b : Nat) (n : Nat) (p : Nat) (F : Nat → Nat × Nat) (i : Nat) (A : Nat → Nat) (X : GX) (G : Gr) (T : Tr) (H : List Nat) (W : Nat → Nat) : Sp := (fun av S => av = [.inr (.inr (some b)), .inl (nI n)] ∧ (isO S 11 b ∧ mI S 1100 b = nI p ∧ mR S 1101 b = some (A 0) ∧ GI S F i A X G T H W ∧ p < 256 ∧ n ≤ 1000000), fun _ S => 0, fun _ S => 0, fun _ S rv S' => rv = (some (.inl (tf (n = 0 ∨ (G.n + n ≤ 8192 ∧ (hasAg G p ∨ G.m < 16)))))) ∧ S' = S, fun _ _ _ _ => False)
def tX10_hasRoom : CD := [(0, .iload_n 1), (1, .ifCond .eq 18), (4, .aload_n 0), (5, .getfield 12), (8, .aload_n 0), (9, .getfield 43), (12, .iload_n 1), (13, .invokevirtual 47), (16, .ifCond .eq 7), (19, .iconst 1), (20, .goto 4), (23, .iconst 0), (24, .ireturn)]
set_option maxRecDepth 100000 in
theorem kX10_hasRoom : chk cX10_hasRoom tX10_hasRoom = true := by decide +kernel
theorem vX10_hasRoom_47 : ∀ w ∈ ([.methodLink RX10 47 yX5_hasRoom, .instanceMethod yX5_hasRoom, .selects yX5_hasRoom.cls yX5_hasRoom yX5_hasRoom, .initialized yX5_hasRoom.cls, .code yX5_hasRoom cX5_hasRoom 3 (some .boolean)] : List Cond), w ∈ lw_good := List.forall_mem_cons.mpr ⟨mgd 857 (by decide +kernel) (by decide +kernel), List.forall_mem_cons.mpr ⟨mgd 858 (by decide +kernel) (by decide +kernel), List.forall_mem_cons.mpr ⟨mgd 859 (by decide +kernel) (by decide +kernel), List.forall_mem_cons.mpr ⟨mgd 125 (by decide +kernel) (by decide +kernel), List.forall_mem_cons.mpr ⟨mgd 860 (by decide +kernel) (by decide +kernel), fun _ h => absurd h List.not_mem_nil⟩⟩⟩⟩⟩
set_option maxRecDepth 100000 in
set_option maxHeartbeats 2000000 in
theorem c_phr (l : Launch) : ∀ (b : Nat) (n : Nat) (p : Nat) (F : Nat → Nat × Nat) (i : Nat) (A : Nat → Nat) (X : GX) (G : Gr) (T : Tr) (H : List Nat) (W : Nat → Nat), Ct l yX10_hasRoom cX10_hasRoom 2 (some .boolean) 2 42 (sp_phr b n p F i A X G T H W) := by
  intro b n p F i A X G T H W
  refine Ct.of (fX10, nX10, aX10, iX10, lX10, [(47, 0, 3, 1, T_ghr)], qX10, gX10, []) false tX10_hasRoom (fun _ _ _ => none) (by decide) (by decide) kX10_hasRoom ⟨_, _, rfl⟩ fX10_ok nX10_ok aX10_ok iX10_ok lX10_ok (fun p e R s m args below meth c Q D cy z r A C hR1 hR2 => List.forall_mem_cons.mpr ⟨cOK_use (fun _ _ _ _ _ _ _ _ h => let ⟨sp, h1, h2, h3⟩ := u_ghr l _ _ _ _ _ _ _ _ h; ⟨sp, cOK_V C h1 vX10_hasRoom_47 ⟨by decide, by decide, by decide +kernel⟩ ⟨by rw [hR1]; decide, by rw [hR2]; decide⟩ (k := 6) (T := TX5) (N := 12) rfl (by decide) h2, h3⟩), fun _ h => absurd h List.not_mem_nil⟩) qX10_ok gX10_ok rfl ?_ ?_
  · rintro _ S ⟨rfl, hp⟩
    refine ⟨Nat.le_of_ble_eq_true rfl, 300, ?_⟩
    show (((nI n) = 0 → (([] : List MV) = [] ∧ mret (some .boolean) (sp_phr b n p F i A X G T H W) [.inr (.inr (some b)), .inl (nI n)] S (some (.inl (1 : Int32))) S 0 0)) ∧ (¬ (nI n) = 0 → (isO S 11 b ∧ (isO S 11 b ∧ (0 = 0 ∧ ((pa (mR S 1101 b) fun a_1 => (∃ (i_2 : Nat), mI S 1100 b = nI i_2 ∧ (∃ (n_3 : Nat), nI n = nI n_3 ∧ (∃ (ar_4 tk_5 d_6 c_7 m_8 : Nat) (Lf_9 : Nat → List Nat) (L_10 : List Nat), (AgT S a_1 ar_4 Lf_9 ∧ i_2 < 256 ∧ mR S 601 a_1 = some tk_5 ∧ AL S tk_5 d_6 c_7 5 L_10 ∧ mI S 603 a_1 = nI m_8 ∧ m_8 < 2147483648 ∧ n_3 ≤ 1000000) ∧ 0 ≤ 0 ∧ 0 ≤ 0 ∧ ((((tf (L_10.length + n_3 ≤ 8192 ∧ (eR S ar_4 i_2 ≠ none ∨ m_8 < 16))) = 0 → (([] : List MV) = [] ∧ mret (some .boolean) (sp_phr b n p F i A X G T H W) [.inr (.inr (some b)), .inl (nI n)] S (some (.inl (0 : Int32))) S 0 0)) ∧ (¬ (tf (L_10.length + n_3 ≤ 8192 ∧ (eR S ar_4 i_2 ≠ none ∨ m_8 < 16))) = 0 → (([] : List MV) = [] ∧ mret (some .boolean) (sp_phr b n p F i A X G T H W) [.inr (.inr (some b)), .inl (nI n)] S (some (.inl (1 : Int32))) S 0 0))))))))))))))
    obtain ⟨h1, h2, h3, hG, h4, h5⟩ := hp
    have gm := hG.ok.hm
    have e1 : ((List.range G.n).map X.ad).length = G.n := by rw [List.length_map, List.length_range]
    refine if_eq (b := 0) (by omega) (by decide) (fun z => ?_) (fun z => ?_)
    · exact ⟨rfl, Or.inr rfl, ⟨by rw [tf_t (Or.inl z)], rfl⟩, Nat.le_refl _, Nat.le_refl _⟩
    · refine ⟨h1, h1, rfl, pa_i h3 ⟨p, h2, n, rfl, A 4, A 2, A 3, capF G.n, G.m, (fun b => (agE G b).map X.ad), (List.range G.n).map X.ad, ⟨hG.agt, h4, (hG 2).1, (hG 2).2.2.2, hG 4, by omega, h5⟩, Nat.le_refl _, Nat.le_refl _, fun y => ?_, fun y => ?_⟩⟩
      · have ef : ¬ (n = 0 ∨ (G.n + n ≤ 8192 ∧ (hasAg G p ∨ G.m < 16))) := fun w => by
          have w := w.resolve_left z
          rw [tf_t (by rw [e1, hG.agr h4]; exact w)] at y
          exact absurd y (by decide)
        exact ⟨rfl, Or.inl rfl, ⟨by rw [tf_f ef], rfl⟩, Nat.le_refl _, Nat.le_refl _⟩
      · have et : n = 0 ∨ (G.n + n ≤ 8192 ∧ (hasAg G p ∨ G.m < 16)) := by
          refine Or.inr (Classical.byContradiction (fun w => y (tf_f (fun v => w ?_))))
          rw [e1, hG.agr h4] at v; exact v
        exact ⟨rfl, Or.inr rfl, ⟨by rw [tf_t et], rfl⟩, Nat.le_refl _, Nat.le_refl _⟩
  · exact fun _ _ _ _ _ h => by cases h
theorem u_phr (l : Launch) : Us l yX10_hasRoom cX10_hasRoom 2 (some .boolean) 2 42 11 T_phr := by
  intro Rc Rs av S cs sl K Kx h
  unfold T_phr at h
  split at h
  · rename_i b_o n_v
    obtain ⟨b, rfl, h_1⟩ := pa_of h
    obtain ⟨n, rfl, h_2⟩ := h_1
    obtain ⟨p, F, i, A, X, G, T, H, W, hp, hc, hs, hk⟩ := h_2
    refine ⟨(sp_phr b n p F i A X G T H W), c_phr l b n p F i A X G T H W, fun _ _ h9 => ⟨_, _, h9.1, h9.2.1⟩, ⟨rfl, hp⟩, hc, hs, fun v9 S' h8 => by
      obtain ⟨h7, h8⟩ := h8
      cases h7
      subst h8
      exact hk, fun _ _ q => q.elim⟩
  · exact h.elim
/-- a peer's calls that may be undone: the list a with its row d of c places; where each first event stands among the taken ones, and how many -/
def EdL (S : MM) (F : Nat → Nat × Nat) (jo a d c : Nat) (E : List (Nat × Nat)) (ea : Nat → Nat) : Prop := AL S a d c 4 ((List.range E.length).map ea) ∧ F a = (jo, 2) ∧ (c ≠ 0 → F d = (jo, 3)) ∧ ∀ l, l < E.length → isO S 4 (ea l) ∧ F (ea l) = (jo, 100 + l) ∧ mI S 400 (ea l) = nI (E.getD l (0, 0)).1 ∧ mI S 401 (ea l) = nI (E.getD l (0, 0)).2
def edO (n : Nat) (ea : Nat → Nat) : Option Nat := if n = 0 then none else some (ea (n - 1))
def T_ple : TR := fun Rc Rs av S cs sl K _Kx => match av with
  | [.inr (.inr b_o)] => pa b_o fun b => (∃ (a d c : Nat) (n : Nat) (ea : Nat → Nat), (isO S 11 b ∧ mR S 1102 b = some a ∧ AL S a d c 4 ((List.range n).map ea)) ∧ cs ≤ Rc ∧ sl ≤ Rs ∧ (K (some (.inr (.inr (edO n ea)))) S cs sl))
  | _ => False
def sp_ple (b : Nat) (a d c : Nat) (n : Nat) (ea : Nat → Nat) : Sp := (fun av S => av = [.inr (.inr (some b))] ∧ (isO S 11 b ∧ mR S 1102 b = some a ∧ AL S a d c 4 ((List.range n).map ea)), fun _ S => 0, fun _ S => 0, fun _ S rv S' => rv = (some (.inr (.inr (edO n ea)))) ∧ S' = S, fun _ _ _ _ => False)
def tX10_latestEdit : CD := [(0, .aload_n 0), (1, .getfield 21), (4, .invokevirtual 103), (7, .ifCond .eq 7), (10, .aconst_null), (11, .goto 22), (14, .aload_n 0), (15, .getfield 21), (18, .aload_n 0), (19, .getfield 21), (22, .invokevirtual 73), (25, .iconst 1), (26, .isub), (27, .invokevirtual 92), (30, .checkcast 68), (33, .areturn)]
set_option maxRecDepth 100000 in
theorem kX10_latestEdit : chk cX10_latestEdit tX10_latestEdit = true := by decide +kernel
theorem vX10_latestEdit_103 : ∀ w ∈ ([.methodLink RX10 103 yJx4a65c_isEmpty_aae02, .instanceMethod yJx4a65c_isEmpty_aae02, .selects yJx4a65c_isEmpty_aae02.cls yJx4a65c_isEmpty_aae02 yJx4a65c_isEmpty_aae02, .initialized yJx4a65c_isEmpty_aae02.cls, .code yJx4a65c_isEmpty_aae02 cJx4a65c_isEmpty_aae02 1 (some .boolean)] : List Cond), w ∈ lw_good := List.forall_mem_cons.mpr ⟨mgd 1094 (by decide +kernel) (by decide +kernel), List.forall_mem_cons.mpr ⟨mgd 1095 (by decide +kernel) (by decide +kernel), List.forall_mem_cons.mpr ⟨mgd 1096 (by decide +kernel) (by decide +kernel), List.forall_mem_cons.mpr ⟨mgd 130 (by decide +kernel) (by decide +kernel), List.forall_mem_cons.mpr ⟨mgd 1097 (by decide +kernel) (by decide +kernel), fun _ h => absurd h List.not_mem_nil⟩⟩⟩⟩⟩
theorem vX10_latestEdit_73 : ∀ w ∈ ([.methodLink RX10 73 yJx4a65c_size_8abf5, .instanceMethod yJx4a65c_size_8abf5, .selects yJx4a65c_size_8abf5.cls yJx4a65c_size_8abf5 yJx4a65c_size_8abf5, .initialized yJx4a65c_size_8abf5.cls, .code yJx4a65c_size_8abf5 cJx4a65c_size_8abf5 1 (some .int)] : List Cond), w ∈ lw_good := List.forall_mem_cons.mpr ⟨mgd 871 (by decide +kernel) (by decide +kernel), List.forall_mem_cons.mpr ⟨mgd 673 (by decide +kernel) (by decide +kernel), List.forall_mem_cons.mpr ⟨mgd 674 (by decide +kernel) (by decide +kernel), List.forall_mem_cons.mpr ⟨mgd 130 (by decide +kernel) (by decide +kernel), List.forall_mem_cons.mpr ⟨mgd 675 (by decide +kernel) (by decide +kernel), fun _ h => absurd h List.not_mem_nil⟩⟩⟩⟩⟩
theorem vX10_latestEdit_92 : ∀ w ∈ ([.methodLink RX10 92 yJx4a65c_get_915e3, .instanceMethod yJx4a65c_get_915e3, .selects yJx4a65c_get_915e3.cls yJx4a65c_get_915e3 yJx4a65c_get_915e3, .initialized yJx4a65c_get_915e3.cls, .code yJx4a65c_get_915e3 cJx4a65c_get_915e3 2 (some (.object "java/lang/Object"))] : List Cond), w ∈ lw_good := List.forall_mem_cons.mpr ⟨mgd 873 (by decide +kernel) (by decide +kernel), List.forall_mem_cons.mpr ⟨mgd 677 (by decide +kernel) (by decide +kernel), List.forall_mem_cons.mpr ⟨mgd 678 (by decide +kernel) (by decide +kernel), List.forall_mem_cons.mpr ⟨mgd 130 (by decide +kernel) (by decide +kernel), List.forall_mem_cons.mpr ⟨mgd 679 (by decide +kernel) (by decide +kernel), fun _ h => absurd h List.not_mem_nil⟩⟩⟩⟩⟩
set_option maxRecDepth 100000 in
set_option maxHeartbeats 2000000 in
theorem c_ple (l : Launch) : ∀ (b : Nat) (a d c : Nat) (n : Nat) (ea : Nat → Nat), Ct l yX10_latestEdit cX10_latestEdit 1 (some (.object "WeaveText$Edit")) 3 64 (sp_ple b a d c n ea) := by
  intro b a d c n ea
  refine Ct.of (fX10, nX10, aX10, iX10, lX10, [(103, 0, 1, 1, T_alemp), (73, 0, 1, 1, T_alsz), (92, 0, 2, 3, T_alget)], qX10, gX10, []) false tX10_latestEdit (fun _ _ _ => none) (by decide) (by decide) kX10_latestEdit ⟨_, _, rfl⟩ fX10_ok nX10_ok aX10_ok iX10_ok lX10_ok (fun p e R s m args below meth c Q D cy z r A C hR1 hR2 => List.forall_mem_cons.mpr ⟨cOK_use (fun _ _ _ _ _ _ _ _ h => let ⟨sp, h1, h2, h3⟩ := u_alemp l _ _ _ _ _ _ _ _ h; ⟨sp, cOK_V C h1 vX10_latestEdit_103 ⟨by decide, by decide, by decide +kernel⟩ ⟨by rw [hR1]; decide, by rw [hR2]; decide⟩ (k := 0) (T := TJx4a65c) (N := 3) rfl (by decide) h2, h3⟩), List.forall_mem_cons.mpr ⟨cOK_use (fun _ _ _ _ _ _ _ _ h => let ⟨sp, h1, h2, h3⟩ := u_alsz l _ _ _ _ _ _ _ _ h; ⟨sp, cOK_V C h1 vX10_latestEdit_73 ⟨by decide, by decide, by decide +kernel⟩ ⟨by rw [hR1]; decide, by rw [hR2]; decide⟩ (k := 0) (T := TJx4a65c) (N := 3) rfl (by decide) h2, h3⟩), List.forall_mem_cons.mpr ⟨cOK_use (fun _ _ _ _ _ _ _ _ h => let ⟨sp, h1, h2, h3⟩ := u_alget l _ _ _ _ _ _ _ _ h; ⟨sp, cOK_V C h1 vX10_latestEdit_92 ⟨by decide, by decide, by decide +kernel⟩ ⟨by rw [hR1]; decide, by rw [hR2]; decide⟩ (k := 0) (T := TJx4a65c) (N := 3) rfl (by decide) h2, h3⟩), fun _ h => absurd h List.not_mem_nil⟩⟩⟩) qX10_ok gX10_ok rfl ?_ ?_
  · rintro _ S ⟨rfl, hp⟩
    refine ⟨Nat.le_of_ble_eq_true rfl, 300, ?_⟩
    show (isO S 11 b ∧ (0 = 0 ∧ ((pa (mR S 1102 b) fun a_1 => (∃ (d_2 c_3 kk_4 : Nat) (L_5 : List Nat), (AL S a_1 d_2 c_3 kk_4 L_5) ∧ 0 ≤ 0 ∧ 0 ≤ 0 ∧ ((((tf (L_5 = [])) = 0 → (isO S 11 b ∧ (isO S 11 b ∧ (0 = 0 ∧ ((pa (mR S 1102 b) fun a_7 => (∃ (d_8 c_9 kk_10 : Nat) (L_11 : List Nat), (AL S a_7 d_8 c_9 kk_10 L_11) ∧ 0 ≤ 0 ∧ 0 ≤ 0 ∧ ((0 = 0 ∧ ((pa (mR S 1102 b) fun a_13 => (∃ (i_14 : Nat), (nI L_11.length) - (1 : Int32) = nI i_14 ∧ (∃ (d_15 c_16 kk_17 : Nat) (L_18 : List Nat), (AL S a_13 d_15 c_16 kk_17 L_18 ∧ i_14 < L_18.length) ∧ 0 ≤ 0 ∧ 0 ≤ 0 ∧ (((∀ w_20, (L_18[i_14]?) = some w_20 → isO S 4 w_20) ∧ (([] : List MV) = [] ∧ mret (some (.object "WeaveText$Edit")) (sp_ple b a d c n ea) [.inr (.inr (some b))] S (some (.inr (.inr (L_18[i_14]?)))) S 0 0)))))))))))))))) ∧ (¬ (tf (L_5 = [])) = 0 → (([] : List MV) = [] ∧ mret (some (.object "WeaveText$Edit")) (sp_ple b a d c n ea) [.inr (.inr (some b))] S (some (.inr (.inr none))) S 0 0)))))))))
    obtain ⟨h1, h2, h3⟩ := hp
    have e1 : ((List.range n).map ea).length = n := by rw [List.length_map, List.length_range]
    have l1 := h3.2.2.2.1
    have l2 := h3.2.2.2.2.1
    rw [e1] at l1
    refine ⟨h1, rfl, pa_i h2 ⟨d, c, 4, _, h3, Nat.le_refl _, Nat.le_refl _, fun y => ?_, fun y => ?_⟩⟩
    · have hn : n ≠ 0 := fun z => by
        subst z
        rw [tf_t (show (List.range 0).map ea = [] from rfl)] at y; exact absurd y (by decide)
      refine ⟨h1, h1, rfl, pa_i h2 ⟨d, c, 4, _, h3, Nat.le_refl _, Nat.le_refl _, rfl, pa_i h2 ⟨n - 1, ?_, d, c, 4, _, ⟨h3, by rw [e1]; omega⟩, Nat.le_refl _, Nat.le_refl _, ?_⟩⟩⟩
      · rw [e1]; exact pk_sub (b := 1) (by omega)
      · have e2 : ((List.range n).map ea)[n - 1]? = some (ea (n - 1)) := by
          rw [List.getElem?_map, List.getElem?_range (by omega)]; rfl
        rw [e2]
        exact ⟨(fun w hw => by cases hw; exact h3.el (List.mem_of_getElem? e2)), rfl, trivial, ⟨by rw [edO, if_neg hn], rfl⟩, Nat.le_refl _, Nat.le_refl _⟩
    · have hn : n = 0 := Classical.byContradiction (fun z => y (tf_f (fun w => z (by
        have := congrArg List.length w
        rw [e1] at this; exact this))))
      exact ⟨rfl, trivial, ⟨by rw [edO, if_pos hn], rfl⟩, Nat.le_refl _, Nat.le_refl _⟩
  · exact fun _ _ _ _ _ h => by cases h
theorem u_ple (l : Launch) : Us l yX10_latestEdit cX10_latestEdit 1 (some (.object "WeaveText$Edit")) 3 64 11 T_ple := by
  intro Rc Rs av S cs sl K Kx h
  unfold T_ple at h
  split at h
  · rename_i b_o
    obtain ⟨b, rfl, h_1⟩ := pa_of h
    obtain ⟨a, d, c, n, ea, hp, hc, hs, hk⟩ := h_1
    refine ⟨(sp_ple b a d c n ea), c_ple l b a d c n ea, fun _ _ h9 => ⟨_, _, h9.1, h9.2.1⟩, ⟨rfl, hp⟩, hc, hs, fun v9 S' h8 => by
      obtain ⟨h7, h8⟩ := h8
      cases h7
      subst h8
      exact hk, fun _ _ q => q.elim⟩
  · exact h.elim
