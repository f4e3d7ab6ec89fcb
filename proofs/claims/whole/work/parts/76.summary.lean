/-! ===== Peer.writeSummary ===== -/
/-- what a summary tells of the agents below n -/
def sumR (G : Gr) : Nat → List Int32
  | 0 => []
  | n + 1 => sumR G n ++ (if (agE G n).length = 0 then [] else vbs 4 (nI n) ++ vbs 4 (nI (agE G n).length))
def sumV (G : Gr) (p n : Nat) : List Int32 := [87, 2, nI p] ++ (vbs 4 (nI G.m) ++ sumR G n)
def sumA (G : Gr) (p : Nat) : List Int32 := sumV G p 256 ++ sealV (crcOf (bPuts [] (sumV G p 256))) 4
theorem sumV_mono {G : Gr} {p n : Nat} : ∀ {m : Nat}, n ≤ m → (sumV G p n).length ≤ (sumV G p m).length
  | 0, h => by rw [show n = 0 by omega]; exact Nat.le_refl _
  | m + 1, h => by
    rcases Nat.lt_or_ge m n with q | q
    · rw [show n = m + 1 by omega]; exact Nat.le_refl _
    · refine Nat.le_trans (sumV_mono q) ?_
      unfold sumV
      rw [List.length_append, List.length_append, List.length_append, List.length_append]
      show _ ≤ _ + (_ + (sumR G m ++ _).length)
      rw [List.length_append]
      omega
theorem sumA_len {G : Gr} {p : Nat} : (sumA G p).length = (sumV G p 256).length + 4 := by
  unfold sumA
  rw [List.length_append, sealV_len]
/-- costs of bytes that come behind bytes -/
theorem App.costC {S S1 : MM} {a d d1 : Nat} {vs : List Int32} (h : App S S1 a d d1 [] vs) (n : Nat) : addNC vs.length (mN S d) 0 + addNC n (mN S1 d1) (bPuts [] vs).length = addNC (vs.length + n) (mN S d) 0 := by
  rw [h.2.2.2.2, bPuts_len (by decide), addNC_add]
  rfl
theorem App.costS {S S1 : MM} {a d d1 : Nat} {vs : List Int32} (h : App S S1 a d d1 [] vs) (n : Nat) : addNS vs.length (mN S d) 0 + addNS n (mN S1 d1) (bPuts [] vs).length = addNS (vs.length + n) (mN S d) 0 := by
  rw [h.2.2.2.2, bPuts_len (by decide), addNS_add]
  rfl
theorem App.keepS {S S1 : MM} {a d d1 : Nat} {vs : List Int32} (h : App (clr S a) S1 a d d1 [] vs) : Keep (fun b => b = a ∨ b = d) S S1 :=
  (Keep.sI (P := fun b => b = a ∨ b = d) (Keep.sI (P := fun b => b = a ∨ b = d) Keep.rf (Or.inl rfl)) (Or.inl rfl)).tr h.2.1
def wsP (S : MM) (F : Nat → Nat × Nat) (i b o p : Nat) (A : Nat → Nat) (X : GX) (G : Gr) (T : Tr) (H : List Nat) (W : Nat → Nat) (d : Nat) (B : List Nat) : Prop :=
  isO S 11 b ∧ mI S 1100 b = nI p ∧ mR S 1101 b = some (A 0) ∧ GI S F i A X G T H W ∧ FO S F ∧ i ≠ 0 ∧ By S o d B ∧ (F o).1 ≠ i ∧ (F d).1 ≠ i
theorem wsP.keep {S S1 : MM} {F : Nat → Nat × Nat} {i b o p : Nat} {A : Nat → Nat} {X : GX} {G : Gr} {T : Tr} {H : List Nat} {W : Nat → Nat} {d d1 : Nat} {B : List Nat} {vs : List Int32} (h : wsP S F i b o p A X G T H W d B) (ha : App (clr S o) S1 o d d1 [] vs) : isO S1 11 b ∧ mR S1 1101 b = some (A 0) ∧ GI S1 F i A X G T H W := by
  obtain ⟨h1, h2, h3, hG, hF, hi, hB, h4, h5⟩ := h
  have hk := ha.keepS
  have hb : ¬ (b = o ∨ b = d) := fun q => q.elim (isO_ne h1 hB.1 (by decide)) (isO_ne h1 hB.2.2.1 (by decide))
  refine ⟨hk.isO h1, ((hk.2.1 b h1.1 hb).2.1 _).trans h3, hG.keep hk (fun x hx q => ?_) hF hi (fun _ _ => rfl)⟩
  rcases q with q | q
  · exact h4 (q ▸ hx)
  · exact h5 (q ▸ hx)
def I_ws (b o d p : Nat) (G : Gr) (S : MM) (t : Nat) : KT := fun lo st S1 cs sl => ∃ k d1, t = 256 - k ∧ k ≤ 256 ∧ lo = [(2, .inl (nI k)), (0, .inr (.inr (some b))), (1, .inr (.inr (some o)))] ∧ st = [] ∧ App (clr S o) S1 o d d1 [] (sumV G p k) ∧ cs = addNC (sumV G p k).length (mN S d) 0 ∧ sl = addNS (sumV G p k).length (mN S d) 0
def T_pws : TR := fun Rc Rs av S cs sl K _Kx => match av with
  | [.inr (.inr b_o), .inr (.inr o_o)] => pa b_o fun b => (pa o_o fun o => (∃ (F : Nat → Nat × Nat) (i p : Nat) (A : Nat → Nat) (X : GX) (G : Gr) (T : Tr) (H : List Nat) (W : Nat → Nat) (d : Nat) (B : List Nat), (wsP S F i b o p A X G T H W d B) ∧ cs + (addNC (sumA G p).length (mN S d) 0) ≤ Rc ∧ sl + (addNS (sumA G p).length (mN S d) 0) ≤ Rs ∧ (∀ (S' : MM), (∃ d', App (clr S o) S' o d d' [] (sumA G p)) → K none S' (cs + (addNC (sumA G p).length (mN S d) 0)) (sl + (addNS (sumA G p).length (mN S d) 0)))))
  | _ => False
def sp_pws (b : Nat) (o : Nat) (F : Nat → Nat × Nat) (i p : Nat) (A : Nat → Nat) (X : GX) (G : Gr) (T : Tr) (H : List Nat) (W : Nat → Nat) (d : Nat) (B : List Nat) : Sp := (fun av S => av = [.inr (.inr (some b)), .inr (.inr (some o))] ∧ (wsP S F i b o p A X G T H W d B), fun _ S => addNC (sumA G p).length (mN S d) 0, fun _ S => addNS (sumA G p).length (mN S d) 0, fun _ S rv S' => rv = none ∧ (∃ d', App (clr S o) S' o d d' [] (sumA G p)), fun _ _ _ _ => False)
def tX10_writeSummary : CD := [(0, .aload_n 1), (1, .iconst 2), (2, .aload_n 0), (3, .getfield 43), (6, .invokevirtual 141), (9, .aload_n 1), (10, .aload_n 0), (11, .getfield 12), (14, .getfield 144), (17, .invokevirtual 147), (20, .iconst 0), (21, .istore_n 2), (22, .iload_n 2), (23, .sipush 256), (26, .if_icmp .ge 32), (29, .aload_n 0), (30, .getfield 12), (33, .iload_n 2), (34, .invokevirtual 150), (37, .istore_n 3), (38, .iload_n 3), (39, .ifCond .le 13), (42, .aload_n 1), (43, .iload_n 2), (44, .invokevirtual 147), (47, .aload_n 1), (48, .iload_n 3), (49, .invokevirtual 147), (52, .iinc 2 1), (55, .goto (-33)), (58, .aload_n 1), (59, .invokevirtual 153), (62, .return_)]
set_option maxRecDepth 100000 in
theorem kX10_writeSummary : chk cX10_writeSummary tX10_writeSummary = true := by decide +kernel
theorem vX10_writeSummary_141 : ∀ w ∈ ([.methodLink RX10 141 yX1_begin, .instanceMethod yX1_begin, .selects yX1_begin.cls yX1_begin yX1_begin, .initialized yX1_begin.cls, .code yX1_begin cX1_begin 3 none] : List Cond), w ∈ lw_good := List.forall_mem_cons.mpr ⟨mgd 1335 (by decide +kernel) (by decide +kernel), List.forall_mem_cons.mpr ⟨mgd 1336 (by decide +kernel) (by decide +kernel), List.forall_mem_cons.mpr ⟨mgd 1337 (by decide +kernel) (by decide +kernel), List.forall_mem_cons.mpr ⟨mgd 122 (by decide +kernel) (by decide +kernel), List.forall_mem_cons.mpr ⟨mgd 1338 (by decide +kernel) (by decide +kernel), fun _ h => absurd h List.not_mem_nil⟩⟩⟩⟩⟩
theorem vX10_writeSummary_147 : ∀ w ∈ ([.methodLink RX10 147 yX1_addVarint, .instanceMethod yX1_addVarint, .selects yX1_addVarint.cls yX1_addVarint yX1_addVarint, .initialized yX1_addVarint.cls, .code yX1_addVarint cX1_addVarint 4 none] : List Cond), w ∈ lw_good := List.forall_mem_cons.mpr ⟨mgd 1340 (by decide +kernel) (by decide +kernel), List.forall_mem_cons.mpr ⟨mgd 1341 (by decide +kernel) (by decide +kernel), List.forall_mem_cons.mpr ⟨mgd 1342 (by decide +kernel) (by decide +kernel), List.forall_mem_cons.mpr ⟨mgd 122 (by decide +kernel) (by decide +kernel), List.forall_mem_cons.mpr ⟨mgd 1343 (by decide +kernel) (by decide +kernel), fun _ h => absurd h List.not_mem_nil⟩⟩⟩⟩⟩
theorem vX10_writeSummary_150 : ∀ w ∈ ([.methodLink RX10 150 yX5_countOf, .instanceMethod yX5_countOf, .selects yX5_countOf.cls yX5_countOf yX5_countOf, .initialized yX5_countOf.cls, .code yX5_countOf cX5_countOf 3 (some .int)] : List Cond), w ∈ lw_good := List.forall_mem_cons.mpr ⟨mgd 1344 (by decide +kernel) (by decide +kernel), List.forall_mem_cons.mpr ⟨mgd 669 (by decide +kernel) (by decide +kernel), List.forall_mem_cons.mpr ⟨mgd 670 (by decide +kernel) (by decide +kernel), List.forall_mem_cons.mpr ⟨mgd 125 (by decide +kernel) (by decide +kernel), List.forall_mem_cons.mpr ⟨mgd 671 (by decide +kernel) (by decide +kernel), fun _ h => absurd h List.not_mem_nil⟩⟩⟩⟩⟩
theorem vX10_writeSummary_153 : ∀ w ∈ ([.methodLink RX10 153 yX1_seal, .instanceMethod yX1_seal, .selects yX1_seal.cls yX1_seal yX1_seal, .initialized yX1_seal.cls, .code yX1_seal cX1_seal 3 none] : List Cond), w ∈ lw_good := List.forall_mem_cons.mpr ⟨mgd 1345 (by decide +kernel) (by decide +kernel), List.forall_mem_cons.mpr ⟨mgd 1346 (by decide +kernel) (by decide +kernel), List.forall_mem_cons.mpr ⟨mgd 1347 (by decide +kernel) (by decide +kernel), List.forall_mem_cons.mpr ⟨mgd 122 (by decide +kernel) (by decide +kernel), List.forall_mem_cons.mpr ⟨mgd 1348 (by decide +kernel) (by decide +kernel), fun _ h => absurd h List.not_mem_nil⟩⟩⟩⟩⟩
set_option maxRecDepth 100000 in
set_option maxHeartbeats 2000000 in
theorem c_pws (l : Launch) : ∀ (b : Nat) (o : Nat) (F : Nat → Nat × Nat) (i p : Nat) (A : Nat → Nat) (X : GX) (G : Gr) (T : Tr) (H : List Nat) (W : Nat → Nat) (d : Nat) (B : List Nat), Ct l yX10_writeSummary cX10_writeSummary 4 none 4 98 (sp_pws b o F i p A X G T H W d B) := by
  intro b o F i p A X G T H W d B
  refine Ct.of (fX10, nX10, aX10, iX10, lX10, [(141, 0, 3, 0, T_bbeg), (147, 0, 2, 0, T_bvar), (150, 0, 2, 1, T_gcof), (153, 0, 1, 0, T_bseal)], qX10, gX10, []) false tX10_writeSummary (fun _ S => look [(22, ([2,0,1], I_ws b o d p G S))]) (by decide) (by decide) kX10_writeSummary ⟨_, _, rfl⟩ fX10_ok nX10_ok aX10_ok iX10_ok lX10_ok (fun p e R s m args below meth c Q D cy z r A C hR1 hR2 => List.forall_mem_cons.mpr ⟨cOK_use (fun _ _ _ _ _ _ _ _ h => let ⟨sp, h1, h2, h3⟩ := u_bbeg l _ _ _ _ _ _ _ _ h; ⟨sp, cOK_V C h1 vX10_writeSummary_141 ⟨by decide, by decide, by decide +kernel⟩ ⟨by rw [hR1]; decide, by rw [hR2]; decide⟩ (k := 2) (T := TX1) (N := 3) rfl (by decide) h2, h3⟩), List.forall_mem_cons.mpr ⟨cOK_use (fun _ _ _ _ _ _ _ _ h => let ⟨sp, h1, h2, h3⟩ := u_bvar l _ _ _ _ _ _ _ _ h; ⟨sp, cOK_V C h1 vX10_writeSummary_147 ⟨by decide, by decide, by decide +kernel⟩ ⟨by rw [hR1]; decide, by rw [hR2]; decide⟩ (k := 2) (T := TX1) (N := 3) rfl (by decide) h2, h3⟩), List.forall_mem_cons.mpr ⟨cOK_use (fun _ _ _ _ _ _ _ _ h => let ⟨sp, h1, h2, h3⟩ := u_gcof l _ _ _ _ _ _ _ _ h; ⟨sp, cOK_V C h1 vX10_writeSummary_150 ⟨by decide, by decide, by decide +kernel⟩ ⟨by rw [hR1]; decide, by rw [hR2]; decide⟩ (k := 6) (T := TX5) (N := 12) rfl (by decide) h2, h3⟩), List.forall_mem_cons.mpr ⟨cOK_use (fun _ _ _ _ _ _ _ _ h => let ⟨sp, h1, h2, h3⟩ := u_bseal l _ _ _ _ _ _ _ _ h; ⟨sp, cOK_V C h1 vX10_writeSummary_153 ⟨by decide, by decide, by decide +kernel⟩ ⟨by rw [hR1]; decide, by rw [hR2]; decide⟩ (k := 2) (T := TX1) (N := 3) rfl (by decide) h2, h3⟩), fun _ h => absurd h List.not_mem_nil⟩⟩⟩⟩) qX10_ok gX10_ok rfl ?_ ?_
  · rintro _ S ⟨rfl, hp⟩
    refine ⟨Nat.le_of_ble_eq_true rfl, 300, ?_⟩
    show (isO S 11 b ∧ (0 = 0 ∧ (∃ (d_1 : Nat) (B_2 : List Nat), (By S o d_1 B_2) ∧ 0 + (addNC 3 (mN S d_1) 0) ≤ addNC (sumA G p).length (mN S d) 0 ∧ 0 + (addNS 3 (mN S d_1) 0) ≤ addNS (sumA G p).length (mN S d) 0 ∧ (∀ (S_3 : MM), (∃ d', App (clr S o) S_3 o d_1 d' [] [87, (2 : Int32), (mI S 1100 b)]) → (isO S_3 11 b ∧ (pa (mR S_3 1101 b) fun a_4 => isO S_3 6 a_4 ∧ (0 = 0 ∧ (∃ (d_5 : Nat) (B_6 : List Nat), (By S_3 o d_5 B_6) ∧ 0 + (addNC 3 (mN S d_1) 0) + (addNC (vbs 4 (mI S_3 603 a_4)).length (mN S_3 d_5) B_6.length) ≤ addNC (sumA G p).length (mN S d) 0 ∧ 0 + (addNS 3 (mN S d_1) 0) + (addNS (vbs 4 (mI S_3 603 a_4)).length (mN S_3 d_5) B_6.length) ≤ addNS (sumA G p).length (mN S d) 0 ∧ (∀ (S_7 : MM), (∃ d', App S_3 S_7 o d_5 d' B_6 (vbs 4 (mI S_3 603 a_4))) → (∃ k1, I_ws b o d p G S k1 [(2, .inl (0 : Int32)), (0, .inr (.inr (some b))), (1, .inr (.inr (some o)))] [] S_7 (0 + (addNC 3 (mN S d_1) 0) + (addNC (vbs 4 (mI S_3 603 a_4)).length (mN S_3 d_5) B_6.length)) (0 + (addNS 3 (mN S d_1) 0) + (addNS (vbs 4 (mI S_3 603 a_4)).length (mN S_3 d_5) B_6.length))))))))))))
    have hp0 := hp
    obtain ⟨h1, h2, h3, hG, hF, hi, hB, h4, h5⟩ := hp
    have e0 : (sumV G p 0).length = 3 + (vbs 4 (nI G.m)).length := by
      unfold sumV sumR
      rw [List.append_nil, List.length_append]
      rfl
    have hl0 : 3 + (vbs 4 (nI G.m)).length ≤ (sumA G p).length := by
      rw [← e0, sumA_len]
      have := sumV_mono (G := G) (p := p) (Nat.zero_le 256)
      omega
    refine ⟨h1, rfl, d, B, hB, ?_, ?_, fun S3 hS3 => ?_⟩
    · rw [Nat.zero_add]; exact addNC_mono _ _ (by omega)
    · rw [Nat.zero_add]; exact addNS_mono _ _ (by omega)
    obtain ⟨d3, a3⟩ := hS3
    rw [h2] at a3
    obtain ⟨k1, k2, k3⟩ := hp0.keep a3
    have hm : mI S3 603 (A 0) = nI G.m := k3 4
    have cC : addNC 3 (mN S d) 0 + addNC (vbs 4 (nI G.m)).length (mN S3 d3) (bPuts [] [87, 2, nI p]).length = addNC (3 + (vbs 4 (nI G.m)).length) (mN S d) 0 := a3.costC _
    have cS : addNS 3 (mN S d) 0 + addNS (vbs 4 (nI G.m)).length (mN S3 d3) (bPuts [] [87, 2, nI p]).length = addNS (3 + (vbs 4 (nI G.m)).length) (mN S d) 0 := a3.costS _
    refine ⟨k1, pa_i k2 ⟨(k3 0).1, rfl, d3, _, a3.1, ?_, ?_, fun S7 hS7 => ?_⟩⟩
    · rw [Nat.zero_add, hm, cC]; exact addNC_mono _ _ hl0
    · rw [Nat.zero_add, hm, cS]; exact addNS_mono _ _ hl0
    · obtain ⟨d7, a7⟩ := hS7
      rw [hm] at a7 ⊢
      refine ⟨256, 0, d7, rfl, Nat.zero_le _, rfl, rfl, ?_, ?_, ?_⟩
      · unfold sumV sumR
        rw [List.append_nil]
        exact App.app (by decide) a3 a7
      · rw [Nat.zero_add, cC, e0]
      · rw [Nat.zero_add, cS, e0]
  · intro av S hpre pc I hI k lo st S1 cs sl h
    obtain ⟨rfl, hp⟩ := hpre
    have hm := look_in hI
    rw [List.mem_singleton] at hm
    cases hm
    obtain ⟨k9, d1, rfl, hk9, rfl, rfl, ha, rfl, rfl⟩ := h
    refine ⟨300, ?_⟩
    show (((256 : Int32) ≤ (nI k9) → (0 = 0 ∧ (∃ (d_1 : Nat) (B_2 : List Nat), (By S1 o d_1 B_2) ∧ addNC (sumV G p k9).length (mN S d) 0 + (addNC 4 (mN S1 d_1) B_2.length) ≤ addNC (sumA G p).length (mN S d) 0 ∧ addNS (sumV G p k9).length (mN S d) 0 + (addNS 4 (mN S1 d_1) B_2.length) ≤ addNS (sumA G p).length (mN S d) 0 ∧ (∀ (S_3 : MM), (∃ d', App S1 S_3 o d_1 d' B_2 (sealV (crcOf B_2) 4)) → (([] : List MV) = [] ∧ mret none (sp_pws b o F i p A X G T H W d B) [.inr (.inr (some b)), .inr (.inr (some o))] S none S_3 (addNC (sumV G p k9).length (mN S d) 0 + (addNC 4 (mN S1 d_1) B_2.length)) (addNS (sumV G p k9).length (mN S d) 0 + (addNS 4 (mN S1 d_1) B_2.length))))))) ∧ (¬ (256 : Int32) ≤ (nI k9) → (isO S1 11 b ∧ (0 = 0 ∧ ((pa (mR S1 1101 b) fun a_4 => (∃ (i_5 : Nat), nI k9 = nI i_5 ∧ (∃ (ar_6 : Nat) (Lf_7 : Nat → List Nat), (AgT S1 a_4 ar_6 Lf_7 ∧ i_5 < 256) ∧ addNC (sumV G p k9).length (mN S d) 0 ≤ addNC (sumA G p).length (mN S d) 0 ∧ addNS (sumV G p k9).length (mN S d) 0 ≤ addNS (sumA G p).length (mN S d) 0 ∧ ((((nI (Lf_7 i_5).length) ≤ 0 → (∃ k1, k1 < 256 - k9 ∧ I_ws b o d p G S k1 [(2, .inl ((nI k9) + (1 : Int32))), (0, .inr (.inr (some b))), (1, .inr (.inr (some o)))] [] S1 (addNC (sumV G p k9).length (mN S d) 0) (addNS (sumV G p k9).length (mN S d) 0))) ∧ (¬ (nI (Lf_7 i_5).length) ≤ 0 → (0 = 0 ∧ (∃ (d_9 : Nat) (B_10 : List Nat), (By S1 o d_9 B_10) ∧ addNC (sumV G p k9).length (mN S d) 0 + (addNC (vbs 4 (nI k9)).length (mN S1 d_9) B_10.length) ≤ addNC (sumA G p).length (mN S d) 0 ∧ addNS (sumV G p k9).length (mN S d) 0 + (addNS (vbs 4 (nI k9)).length (mN S1 d_9) B_10.length) ≤ addNS (sumA G p).length (mN S d) 0 ∧ (∀ (S_11 : MM), (∃ d', App S1 S_11 o d_9 d' B_10 (vbs 4 (nI k9))) → (0 = 0 ∧ (∃ (d_12 : Nat) (B_13 : List Nat), (By S_11 o d_12 B_13) ∧ addNC (sumV G p k9).length (mN S d) 0 + (addNC (vbs 4 (nI k9)).length (mN S1 d_9) B_10.length) + (addNC (vbs 4 (nI (Lf_7 i_5).length)).length (mN S_11 d_12) B_13.length) ≤ addNC (sumA G p).length (mN S d) 0 ∧ addNS (sumV G p k9).length (mN S d) 0 + (addNS (vbs 4 (nI k9)).length (mN S1 d_9) B_10.length) + (addNS (vbs 4 (nI (Lf_7 i_5).length)).length (mN S_11 d_12) B_13.length) ≤ addNS (sumA G p).length (mN S d) 0 ∧ (∀ (S_14 : MM), (∃ d', App S_11 S_14 o d_12 d' B_13 (vbs 4 (nI (Lf_7 i_5).length))) → (∃ k1, k1 < 256 - k9 ∧ I_ws b o d p G S k1 [(2, .inl ((nI k9) + (1 : Int32))), (0, .inr (.inr (some b))), (1, .inr (.inr (some o)))] [] S_14 (addNC (sumV G p k9).length (mN S d) 0 + (addNC (vbs 4 (nI k9)).length (mN S1 d_9) B_10.length) + (addNC (vbs 4 (nI (Lf_7 i_5).length)).length (mN S_11 d_12) B_13.length)) (addNS (sumV G p k9).length (mN S d) 0 + (addNS (vbs 4 (nI k9)).length (mN S1 d_9) B_10.length) + (addNS (vbs 4 (nI (Lf_7 i_5).length)).length (mN S_11 d_12) B_13.length))))))))))))))))))))
    have hp0 := hp
    obtain ⟨h1, h2, h3, hG, hF, hi, hB, h4, h5⟩ := hp
    have hmo : ∀ n, n ≤ 256 → (sumV G p n).length ≤ (sumA G p).length := fun n hn => by
      rw [sumA_len]
      have := sumV_mono (G := G) (p := p) hn
      omega
    refine if_le (a := 256) (b := k9) (by omega) (by omega) (fun z => ?_) (fun z => ?_)
    · have : k9 = 256 := by omega
      subst this
      have cC : addNC (sumV G p 256).length (mN S d) 0 + addNC 4 (mN S1 d1) (bPuts [] (sumV G p 256)).length = addNC ((sumV G p 256).length + 4) (mN S d) 0 := ha.costC 4
      have cS : addNS (sumV G p 256).length (mN S d) 0 + addNS 4 (mN S1 d1) (bPuts [] (sumV G p 256)).length = addNS ((sumV G p 256).length + 4) (mN S d) 0 := ha.costS 4
      refine ⟨rfl, d1, _, ha.1, by rw [cC, sumA_len]; exact Nat.le_refl _, by rw [cS, sumA_len]; exact Nat.le_refl _, fun S3 hS3 => ?_⟩
      obtain ⟨d3, a3⟩ := hS3
      exact ⟨rfl, trivial, ⟨rfl, d3, App.app (by decide) ha a3⟩, by rw [cC, ← sumA_len]; exact Nat.le_refl _, by rw [cS, ← sumA_len]; exact Nat.le_refl _⟩
    · obtain ⟨k1, k2, k3⟩ := hp0.keep ha
      have gn := hG.ok.hn
      have hle : (agE G k9).length ≤ G.n := by
        unfold agE
        exact Nat.le_trans (List.length_filter_le _ _) (by rw [List.length_range]; exact Nat.le_refl _)
      refine ⟨k1, rfl, pa_i k2 ⟨k9, rfl, A 4, fun a => (agE G a).map X.ad, ⟨k3.agt, by omega⟩, addNC_mono _ _ (hmo _ hk9), addNS_mono _ _ (hmo _ hk9), ?_⟩⟩
      dsimp only
      rw [List.length_map]
      refine if_le (a := (agE G k9).length) (b := 0) (by omega) (by omega) (fun w => ?_) (fun w => ?_)
      · have e1 : sumV G p (k9 + 1) = sumV G p k9 := by
          unfold sumV
          show _ ++ (_ ++ (sumR G k9 ++ _)) = _
          rw [if_pos (by omega), List.append_nil]
        exact ⟨256 - (k9 + 1), by omega, k9 + 1, d1, rfl, by omega, by rw [nI_1], rfl, by rw [e1]; exact ha, by rw [e1], by rw [e1]⟩
      · have e1 : sumV G p (k9 + 1) = (sumV G p k9 ++ vbs 4 (nI k9)) ++ vbs 4 (nI (agE G k9).length) := by
          unfold sumV
          show _ ++ (_ ++ (sumR G k9 ++ _)) = _
          rw [if_neg (by omega)]
          simp only [List.append_assoc]
        have hm1 := hmo (k9 + 1) (by omega)
        rw [e1, List.length_append] at hm1
        have cC : addNC (sumV G p k9).length (mN S d) 0 + addNC (vbs 4 (nI k9)).length (mN S1 d1) (bPuts [] (sumV G p k9)).length = addNC ((sumV G p k9) ++ (vbs 4 (nI k9))).length (mN S d) 0 := by rw [List.length_append]; exact ha.costC _
        have cS : addNS (sumV G p k9).length (mN S d) 0 + addNS (vbs 4 (nI k9)).length (mN S1 d1) (bPuts [] (sumV G p k9)).length = addNS ((sumV G p k9) ++ (vbs 4 (nI k9))).length (mN S d) 0 := by rw [List.length_append]; exact ha.costS _
        refine ⟨rfl, d1, _, ha.1, by rw [cC]; exact addNC_mono _ _ (by omega), by rw [cS]; exact addNS_mono _ _ (by omega), fun S3 hS3 => ?_⟩
        obtain ⟨d3, a3⟩ := hS3
        have b3 := App.app (by decide) ha a3
        rw [cC, cS]
        have dC : addNC ((sumV G p k9) ++ (vbs 4 (nI k9))).length (mN S d) 0 + addNC (vbs 4 (nI (agE G k9).length)).length (mN S3 d3) (bPuts [] ((sumV G p k9) ++ (vbs 4 (nI k9)))).length = addNC (((sumV G p k9) ++ (vbs 4 (nI k9))).length + (vbs 4 (nI (agE G k9).length)).length) (mN S d) 0 := b3.costC _
        have dS : addNS ((sumV G p k9) ++ (vbs 4 (nI k9))).length (mN S d) 0 + addNS (vbs 4 (nI (agE G k9).length)).length (mN S3 d3) (bPuts [] ((sumV G p k9) ++ (vbs 4 (nI k9)))).length = addNS (((sumV G p k9) ++ (vbs 4 (nI k9))).length + (vbs 4 (nI (agE G k9).length)).length) (mN S d) 0 := b3.costS _
        refine ⟨rfl, d3, _, b3.1, by rw [dC]; exact addNC_mono _ _ hm1, by rw [dS]; exact addNS_mono _ _ hm1, fun S4 hS4 => ?_⟩
        obtain ⟨d4, a4⟩ := hS4
        exact ⟨256 - (k9 + 1), by omega, k9 + 1, d4, rfl, by omega, by rw [nI_1], rfl, by rw [e1]; exact App.app (by decide) b3 a4, by rw [dC, e1, ← List.length_append], by rw [dS, e1, ← List.length_append]⟩
theorem u_pws (l : Launch) : Us l yX10_writeSummary cX10_writeSummary 4 none 4 98 11 T_pws := by
  intro Rc Rs av S cs sl K Kx h
  unfold T_pws at h
  split at h
  · rename_i b_o o_o
    obtain ⟨b, rfl, h_1⟩ := pa_of h
    obtain ⟨o, rfl, h_2⟩ := pa_of h_1
    obtain ⟨F, i, p, A, X, G, T, H, W, d, B, hp, hc, hs, hk⟩ := h_2
    refine ⟨(sp_pws b o F i p A X G T H W d B), c_pws l b o F i p A X G T H W d B, fun _ _ h9 => ⟨_, _, h9.1, h9.2.1⟩, ⟨rfl, hp⟩, hc, hs, fun S' h8 => by
      obtain ⟨-, h8⟩ := h8
      exact hk _ h8, fun _ _ q => q.elim⟩
  · exact h.elim
