/-! ===== The reference's graph: lastIn, isCritical, tops, all ===== -/
def lsI (G : Gr) (W : Nat → Nat) (s : Nat) : Int32 := if s < G.m ∧ 0 < W s then nI ((evL G s).getD (W s - 1) 0) else -1
def T_rli : TR := fun Rc Rs av S cs sl K _Kx => match av with
  | [.inr (.inr g_o), .inr (.inr r_o), .inl o_v, .inl sv_v] => pa g_o fun g => (pa r_o fun r => (∃ (o : Nat), o_v = nI o ∧ (∃ (sv : Nat), sv_v = nI sv ∧ (∃ (F : Nat → Nat × Nat) (i : Nat) (y : Nat → Nat) (G : Gr) (T : Tr) (W : Nat → Nat), (g = y 0 ∧ RG S F i y G T ∧ StR S r o W ∧ sv < 16 ∧ (∀ s, s < G.m → W s ≤ G.cn s)) ∧ cs ≤ Rc ∧ sl ≤ Rs ∧ (K (some (.inl (lsI G W sv))) S cs sl)))))
  | _ => False
def sp_rli (g : Nat) (r : Nat) (o : Nat) (sv : Nat) (F : Nat → Nat × Nat) (i : Nat) (y : Nat → Nat) (G : Gr) (T : Tr) (W : Nat → Nat) : Sp := (fun av S => av = [.inr (.inr (some g)), .inr (.inr (some r)), .inl (nI o), .inl (nI sv)] ∧ (g = y 0 ∧ RG S F i y G T ∧ StR S r o W ∧ sv < 16 ∧ (∀ s, s < G.m → W s ≤ G.cn s)), fun _ S => 0, fun _ S => 0, fun _ S rv S' => rv = (some (.inl (lsI G W sv))) ∧ S' = S, fun _ _ _ _ => False)
def tX12_lastIn : CD := [(0, .iload_n 3), (1, .aload_n 0), (2, .getfield 87), (5, .if_icmp .ge 28), (8, .aload_n 1), (9, .iload_n 2), (10, .iload_n 3), (11, .iadd), (12, .saload), (13, .ifCond .le 20), (16, .aload_n 0), (17, .getfield 20), (20, .iload_n 3), (21, .aaload), (22, .aload_n 1), (23, .iload_n 2), (24, .iload_n 3), (25, .iadd), (26, .saload), (27, .iconst 1), (28, .isub), (29, .iaload), (30, .goto 4), (33, .iconst (-1)), (34, .ireturn)]
set_option maxRecDepth 100000 in
theorem kX12_lastIn : chk cX12_lastIn tX12_lastIn = true := by decide +kernel

set_option maxRecDepth 100000 in
set_option maxHeartbeats 2000000 in
theorem c_rli (l : Launch) : ∀ (g : Nat) (r : Nat) (o : Nat) (sv : Nat) (F : Nat → Nat × Nat) (i : Nat) (y : Nat → Nat) (G : Gr) (T : Tr) (W : Nat → Nat), Ct l yX12_lastIn cX12_lastIn 4 (some .int) 0 0 (sp_rli g r o sv F i y G T W) := by
  intro g r o sv F i y G T W
  refine Ct.of (fX12, nX12, aX12, iX12, lX12, [], qX12, gX12, []) false tX12_lastIn (fun _ _ _ => none) (by decide) (by decide) kX12_lastIn ⟨_, _, rfl⟩ fX12_ok nX12_ok aX12_ok iX12_ok lX12_ok (fun _ _ _ _ _ _ _ _ _ _ _ _ _ _ _ _ _ _ => no_all) qX12_ok gX12_ok rfl ?_ ?_
  · rintro _ S ⟨rfl, hp⟩
    refine ⟨Nat.le_of_ble_eq_true rfl, 300, ?_⟩
    show (isO S 13 g ∧ (((mI S 1301 g) ≤ (nI sv) → (([] : List MV) = [] ∧ mret (some .int) (sp_rli g r o sv F i y G T W) [.inr (.inr (some g)), .inr (.inr (some r)), .inl (nI o), .inl (nI sv)] S (some (.inl (-1 : Int32))) S 0 0)) ∧ (¬ (mI S 1301 g) ≤ (nI sv) → (isO S 19 r ∧ inR S r ((nI o) + (nI sv)) ∧ (((eI S r ((nI o) + (nI sv)).toNatClampNeg) ≤ 0 → (([] : List MV) = [] ∧ mret (some .int) (sp_rli g r o sv F i y G T W) [.inr (.inr (some g)), .inr (.inr (some r)), .inl (nI o), .inl (nI sv)] S (some (.inl (-1 : Int32))) S 0 0)) ∧ (¬ (eI S r ((nI o) + (nI sv)).toNatClampNeg) ≤ 0 → (isO S 13 g ∧ (pa (mR S 1305 g) fun a_1 => a_1 ∈ mL S ∧ ¬ mK S a_1 < 21 ∧ mK S a_1 < 29 ∧ inR S a_1 (nI sv) ∧ (isO S 19 r ∧ inR S r ((nI o) + (nI sv)) ∧ (pa (eR S a_1 (nI sv).toNatClampNeg) fun a_2 => ∃ v_3 : Int32, (isO S 17 a_2 ∧ inR S a_2 ((eI S r ((nI o) + (nI sv)).toNatClampNeg) - (1 : Int32)) ∧ v_3 = eI S a_2 ((eI S r ((nI o) + (nI sv)).toNatClampNeg) - (1 : Int32)).toNatClampNeg ∨ a_2 = (mQ S).1 ∧ vp_in ((eI S r ((nI o) + (nI sv)).toNatClampNeg) - (1 : Int32)) 16 ∧ v_3 = mRem ((eI S r ((nI o) + (nI sv)).toNatClampNeg) - (1 : Int32)).toNatClampNeg) ∧ (([] : List MV) = [] ∧ mret (some .int) (sp_rli g r o sv F i y G T W) [.inr (.inr (some g)), .inr (.inr (some r)), .inl (nI o), .inl (nI sv)] S (some (.inl v_3)) S 0 0)))))))))))
    trace_state
    sorry
  · exact fun _ _ _ _ _ h => by cases h
theorem u_rli (l : Launch) : Us l yX12_lastIn cX12_lastIn 4 (some .int) 0 0 13 T_rli := by
  intro Rc Rs av S cs sl K Kx h
  unfold T_rli at h
  split at h
  · rename_i g_o r_o o_v sv_v
    obtain ⟨g, rfl, h_1⟩ := pa_of h
    obtain ⟨r, rfl, h_2⟩ := pa_of h_1
    obtain ⟨o, rfl, h_3⟩ := h_2
    obtain ⟨sv, rfl, h_4⟩ := h_3
    obtain ⟨F, i, y, G, T, W, hp, hc, hs, hk⟩ := h_4
    refine ⟨(sp_rli g r o sv F i y G T W), c_rli l g r o sv F i y G T W, fun _ _ h9 => ⟨_, _, h9.1, (h9.2.1 ▸ (h9.2.2.1 0).1)⟩, ⟨rfl, hp⟩, hc, hs, fun v9 S' h8 => by
      obtain ⟨h7, h8⟩ := h8
      cases h7
      subst h8
      exact hk, fun _ _ q => q.elim⟩
  · exact h.elim
def I_ric (g e : Nat) (G : Gr) (S : MM) (k : Nat) : KT := fun lo st S1 cs sl => ∃ j, j + k = G.m ∧ (∀ s, s < j → (G.ev e).pa s + (if s = (G.ev e).sl then 1 else 0) < G.cn s → G.bef e ((evL G s).getD ((G.ev e).pa s + (if s = (G.ev e).sl then 1 else 0)) 0) = true) ∧ lo = [(0, .inr (.inr (some g))), (1, .inl (nI e)), (2, .inl (nI j))] ∧ st = [] ∧ S = S1 ∧ cs = 0 ∧ sl = 0
/-- an event as the reference calls it critical -/
def crR (G : Gr) (e : Nat) : Prop := ∀ s, s < G.m → (G.ev e).pa s + (if s = (G.ev e).sl then 1 else 0) < G.cn s → G.bef e ((evL G s).getD ((G.ev e).pa s + (if s = (G.ev e).sl then 1 else 0)) 0) = true
def T_ric : TR := fun Rc Rs av S cs sl K _Kx => match av with
  | [.inr (.inr g_o), .inl e_v] => pa g_o fun g => (∃ (e : Nat), e_v = nI e ∧ (∃ (F : Nat → Nat × Nat) (i : Nat) (y : Nat → Nat) (G : Gr) (T : Tr), (g = y 0 ∧ RG S F i y G T ∧ e < G.n) ∧ cs ≤ Rc ∧ sl ≤ Rs ∧ (K (some (.inl (tf (crR G e)))) S cs sl)))
  | _ => False
def sp_ric (g : Nat) (e : Nat) (F : Nat → Nat × Nat) (i : Nat) (y : Nat → Nat) (G : Gr) (T : Tr) : Sp := (fun av S => av = [.inr (.inr (some g)), .inl (nI e)] ∧ (g = y 0 ∧ RG S F i y G T ∧ e < G.n), fun _ S => 0, fun _ S => 0, fun _ S rv S' => rv = (some (.inl (tf (crR G e)))) ∧ S' = S, fun _ _ _ _ => False)
def tX12_isCritical : CD := [(0, .iconst 0), (1, .istore_n 2), (2, .iload_n 2), (3, .aload_n 0), (4, .getfield 87), (7, .if_icmp .ge 65), (10, .aload_n 0), (11, .getfield 30), (14, .bipush 16), (16, .iload_n 1), (17, .imul), (18, .iload_n 2), (19, .iadd), (20, .saload), (21, .iload_n 2), (22, .aload_n 0), (23, .getfield 23), (26, .iload_n 1), (27, .iaload), (28, .if_icmp .ne 7), (31, .iconst 1), (32, .goto 4), (35, .iconst 0), (36, .iadd), (37, .istore_n 3), (38, .iload_n 3), (39, .aload_n 0), (40, .getfield 15), (43, .iload_n 2), (44, .iaload), (45, .if_icmp .ge 21), (48, .aload_n 0), (49, .iload_n 1), (50, .aload_n 0), (51, .getfield 20), (54, .iload_n 2), (55, .aaload), (56, .iload_n 3), (57, .iaload), (58, .invokevirtual 148), (61, .ifCond .ne 5), (64, .iconst 0), (65, .ireturn), (66, .iinc 2 1), (69, .goto (-67)), (72, .iconst 1), (73, .ireturn)]
set_option maxRecDepth 100000 in
theorem kX12_isCritical : chk cX12_isCritical tX12_isCritical = true := by decide +kernel
theorem vX12_isCritical_148 : ∀ w ∈ ([.methodLink RX12 148 yX12_isBefore, .instanceMethod yX12_isBefore, .selects yX12_isBefore.cls yX12_isBefore yX12_isBefore, .initialized yX12_isBefore.cls, .code yX12_isBefore cX12_isBefore 3 (some .boolean)] : List Cond), w ∈ lw_good := List.forall_mem_cons.mpr ⟨mgd 2159 (by decide +kernel) (by decide +kernel), List.forall_mem_cons.mpr ⟨mgd 2160 (by decide +kernel) (by decide +kernel), List.forall_mem_cons.mpr ⟨mgd 2161 (by decide +kernel) (by decide +kernel), List.forall_mem_cons.mpr ⟨mgd 138 (by decide +kernel) (by decide +kernel), List.forall_mem_cons.mpr ⟨mgd 2162 (by decide +kernel) (by decide +kernel), fun _ h => absurd h List.not_mem_nil⟩⟩⟩⟩⟩
set_option maxRecDepth 100000 in
set_option maxHeartbeats 2000000 in
theorem c_ric (l : Launch) : ∀ (g : Nat) (e : Nat) (F : Nat → Nat × Nat) (i : Nat) (y : Nat → Nat) (G : Gr) (T : Tr), Ct l yX12_isCritical cX12_isCritical 4 (some .boolean) 1 22 (sp_ric g e F i y G T) := by
  intro g e F i y G T
  refine Ct.of (fX12, nX12, aX12, iX12, lX12, [(148, 0, 3, 1, T_rib)], qX12, gX12, []) false tX12_isCritical (fun _ S => look [(2, ([0,1,2], I_ric g e G S))]) (by decide) (by decide) kX12_isCritical ⟨_, _, rfl⟩ fX12_ok nX12_ok aX12_ok iX12_ok lX12_ok (fun p e R s m args below meth c Q D cy z r A C hR1 hR2 => List.forall_mem_cons.mpr ⟨cOK_use (fun _ _ _ _ _ _ _ _ h => let ⟨sp, h1, h2, h3⟩ := u_rib l _ _ _ _ _ _ _ _ h; ⟨sp, cOK_V C h1 vX12_isCritical_148 ⟨by decide, by decide, by decide +kernel⟩ ⟨by rw [hR1]; decide, by rw [hR2]; decide⟩ (k := 13) (T := TX12) (N := 27) rfl (by decide) h2, h3⟩), fun _ h => absurd h List.not_mem_nil⟩) qX12_ok gX12_ok rfl ?_ ?_
  · rintro _ S ⟨rfl, hp⟩
    refine ⟨Nat.le_of_ble_eq_true rfl, 300, ?_⟩
    show (∃ k1, I_ric g e G S k1 [(0, .inr (.inr (some g))), (1, .inl (nI e)), (2, .inl (0 : Int32))] [] S 0 0)
    obtain ⟨rfl, h⟩ := hp
    exact ⟨G.m, 0, by omega, fun s hs => absurd hs (Nat.not_lt_zero s), rfl, rfl, rfl, rfl, rfl⟩
  · intro av S hpre pc I hI k lo st S1 cs sl h
    obtain ⟨rfl, hp⟩ := hpre
    have hm := look_in hI
    rw [List.mem_singleton] at hm
    cases hm
    obtain ⟨j, hj, hA, rfl, rfl, rfl, rfl, rfl⟩ := h
    refine ⟨300, ?_⟩
    show (isO S 13 g ∧ (((mI S 1301 g) ≤ (nI j) → (([] : List MV) = [] ∧ mret (some .boolean) (sp_ric g e F i y G T) [.inr (.inr (some g)), .inl (nI e)] S (some (.inl (1 : Int32))) S 0 0)) ∧ (¬ (mI S 1301 g) ≤ (nI j) → (isO S 13 g ∧ (pa (mR S 1308 g) fun a_1 => isO S 19 a_1 ∧ inR S a_1 (((16 : Int32) * (nI e)) + (nI j)) ∧ (isO S 13 g ∧ (pa (mR S 1306 g) fun a_2 => ∃ v_3 : Int32, (isO S 17 a_2 ∧ inR S a_2 (nI e) ∧ v_3 = eI S a_2 (nI e).toNatClampNeg ∨ a_2 = (mQ S).1 ∧ vp_in (nI e) 16 ∧ v_3 = mRem (nI e).toNatClampNeg) ∧ ((¬ (nI j) = v_3 → (isO S 13 g ∧ (pa (mR S 1304 g) fun a_4 => ∃ v_5 : Int32, (isO S 17 a_4 ∧ inR S a_4 (nI j) ∧ v_5 = eI S a_4 (nI j).toNatClampNeg ∨ a_4 = (mQ S).1 ∧ vp_in (nI j) 16 ∧ v_5 = mRem (nI j).toNatClampNeg) ∧ ((v_5 ≤ ((eI S a_1 (((16 : Int32) * (nI e)) + (nI j)).toNatClampNeg) + (0 : Int32)) → (∃ k1, k1 < k ∧ I_ric g e G S k1 [(0, .inr (.inr (some g))), (1, .inl (nI e)), (2, .inl ((nI j) + (1 : Int32)))] [] S 0 0)) ∧ (¬ v_5 ≤ ((eI S a_1 (((16 : Int32) * (nI e)) + (nI j)).toNatClampNeg) + (0 : Int32)) → (isO S 13 g ∧ (pa (mR S 1305 g) fun a_6 => a_6 ∈ mL S ∧ ¬ mK S a_6 < 21 ∧ mK S a_6 < 29 ∧ inR S a_6 (nI j) ∧ (pa (eR S a_6 (nI j).toNatClampNeg) fun a_7 => ∃ v_8 : Int32, (isO S 17 a_7 ∧ inR S a_7 ((eI S a_1 (((16 : Int32) * (nI e)) + (nI j)).toNatClampNeg) + (0 : Int32)) ∧ v_8 = eI S a_7 ((eI S a_1 (((16 : Int32) * (nI e)) + (nI j)).toNatClampNeg) + (0 : Int32)).toNatClampNeg ∨ a_7 = (mQ S).1 ∧ vp_in ((eI S a_1 (((16 : Int32) * (nI e)) + (nI j)).toNatClampNeg) + (0 : Int32)) 16 ∧ v_8 = mRem ((eI S a_1 (((16 : Int32) * (nI e)) + (nI j)).toNatClampNeg) + (0 : Int32)).toNatClampNeg) ∧ (0 = 0 ∧ (∃ (e_9 : Nat), nI e = nI e_9 ∧ (∃ (f_10 : Nat), v_8 = nI f_10 ∧ (∃ (F_11 : Nat → Nat × Nat) (i_12 : Nat) (y_13 : Nat → Nat) (G_14 : Gr) (T_15 : Tr), (g = y_13 0 ∧ RG S F_11 i_12 y_13 G_14 T_15 ∧ e_9 < G_14.n ∧ f_10 < G_14.n) ∧ 0 ≤ 0 ∧ 0 ≤ 0 ∧ (((¬ (bI (G_14.bef e_9 f_10)) = 0 → (∃ k1, k1 < k ∧ I_ric g e G S k1 [(0, .inr (.inr (some g))), (1, .inl (nI e)), (2, .inl ((nI j) + (1 : Int32)))] [] S 0 0)) ∧ ((bI (G_14.bef e_9 f_10)) = 0 → (([] : List MV) = [] ∧ mret (some .boolean) (sp_ric g e F i y G T) [.inr (.inr (some g)), .inl (nI e)] S (some (.inl (0 : Int32))) S 0 0)))))))))))))))) ∧ ((nI j) = v_3 → (isO S 13 g ∧ (pa (mR S 1304 g) fun a_17 => ∃ v_18 : Int32, (isO S 17 a_17 ∧ inR S a_17 (nI j) ∧ v_18 = eI S a_17 (nI j).toNatClampNeg ∨ a_17 = (mQ S).1 ∧ vp_in (nI j) 16 ∧ v_18 = mRem (nI j).toNatClampNeg) ∧ ((v_18 ≤ ((eI S a_1 (((16 : Int32) * (nI e)) + (nI j)).toNatClampNeg) + (1 : Int32)) → (∃ k1, k1 < k ∧ I_ric g e G S k1 [(0, .inr (.inr (some g))), (1, .inl (nI e)), (2, .inl ((nI j) + (1 : Int32)))] [] S 0 0)) ∧ (¬ v_18 ≤ ((eI S a_1 (((16 : Int32) * (nI e)) + (nI j)).toNatClampNeg) + (1 : Int32)) → (isO S 13 g ∧ (pa (mR S 1305 g) fun a_19 => a_19 ∈ mL S ∧ ¬ mK S a_19 < 21 ∧ mK S a_19 < 29 ∧ inR S a_19 (nI j) ∧ (pa (eR S a_19 (nI j).toNatClampNeg) fun a_20 => ∃ v_21 : Int32, (isO S 17 a_20 ∧ inR S a_20 ((eI S a_1 (((16 : Int32) * (nI e)) + (nI j)).toNatClampNeg) + (1 : Int32)) ∧ v_21 = eI S a_20 ((eI S a_1 (((16 : Int32) * (nI e)) + (nI j)).toNatClampNeg) + (1 : Int32)).toNatClampNeg ∨ a_20 = (mQ S).1 ∧ vp_in ((eI S a_1 (((16 : Int32) * (nI e)) + (nI j)).toNatClampNeg) + (1 : Int32)) 16 ∧ v_21 = mRem ((eI S a_1 (((16 : Int32) * (nI e)) + (nI j)).toNatClampNeg) + (1 : Int32)).toNatClampNeg) ∧ (0 = 0 ∧ (∃ (e_22 : Nat), nI e = nI e_22 ∧ (∃ (f_23 : Nat), v_21 = nI f_23 ∧ (∃ (F_24 : Nat → Nat × Nat) (i_25 : Nat) (y_26 : Nat → Nat) (G_27 : Gr) (T_28 : Tr), (g = y_26 0 ∧ RG S F_24 i_25 y_26 G_27 T_28 ∧ e_22 < G_27.n ∧ f_23 < G_27.n) ∧ 0 ≤ 0 ∧ 0 ≤ 0 ∧ (((¬ (bI (G_27.bef e_22 f_23)) = 0 → (∃ k1, k1 < k ∧ I_ric g e G S k1 [(0, .inr (.inr (some g))), (1, .inl (nI e)), (2, .inl ((nI j) + (1 : Int32)))] [] S 0 0)) ∧ ((bI (G_27.bef e_22 f_23)) = 0 → (([] : List MV) = [] ∧ mret (some .boolean) (sp_ric g e F i y G T) [.inr (.inr (some g)), .inl (nI e)] S (some (.inl (0 : Int32))) S 0 0))))))))))))))))))))))))
    trace_state
    sorry
theorem u_ric (l : Launch) : Us l yX12_isCritical cX12_isCritical 4 (some .boolean) 1 22 13 T_ric := by
  intro Rc Rs av S cs sl K Kx h
  unfold T_ric at h
  split at h
  · rename_i g_o e_v
    obtain ⟨g, rfl, h_1⟩ := pa_of h
    obtain ⟨e, rfl, h_2⟩ := h_1
    obtain ⟨F, i, y, G, T, hp, hc, hs, hk⟩ := h_2
    refine ⟨(sp_ric g e F i y G T), c_ric l g e F i y G T, fun _ _ h9 => ⟨_, _, h9.1, (h9.2.1 ▸ (h9.2.2.1 0).1)⟩, ⟨rfl, hp⟩, hc, hs, fun v9 S' h8 => by
      obtain ⟨h7, h8⟩ := h8
      cases h7
      subst h8
      exact hk, fun _ _ q => q.elim⟩
  · exact h.elim
