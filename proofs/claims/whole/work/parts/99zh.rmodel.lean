/-! ===== The reference's Model: check, there, needRoom, id ===== -/
def T_rck : TR := fun Rc Rs av S cs sl K Kx => match av with
  | [.inl c] => (c = 0 ∨ c = 1) ∧ cs + 1 ≤ Rc ∧ sl + 6 ≤ Rs ∧ ((∀ (S' : MM), (S' = S ∧ c = 1) → K none S' (cs + 1) (sl + 6)) ∧ ((c = 0) → Kx 1 S (cs + 1) (sl + 6)))
  | _ => False
def sp_rck (c : Int32)  : Sp := (fun av S => av = [.inl c] ∧ (c = 0 ∨ c = 1), fun _ S => 1, fun _ S => 6, fun _ S rv S' => rv = none ∧ (S' = S ∧ c = 1), fun _ S E S' => (E = 1 ∧ (c = 0) ∧ S' = S))
def tX14_check : CD := [(0, .iload_n 0), (1, .ifCond .ne 11), (4, .new 138), (7, .dup), (8, .invokespecial 140), (11, .athrow), (12, .return_)]
set_option maxRecDepth 100000 in
theorem kX14_check : chk cX14_check tX14_check = true := by decide +kernel

set_option maxRecDepth 100000 in
set_option maxHeartbeats 2000000 in
theorem c_rck (l : Launch) (hlt : l.stackTraces = false) : ∀ (c : Int32), CtX l yX14_check (Cond.code yX14_check cX14_check 1 none) none 6 89 (sp_rck c) := by
  intro c
  refine CtX.of hlt (fX14, nX14, aX14, iX14, lX14, [], qX14, gX14, thX14) false tX14_check (fun _ _ _ => none) (by decide) (by decide) kX14_check ⟨_, _, rfl⟩ fX14_ok nX14_ok aX14_ok iX14_ok lX14_ok (fun _ _ _ _ _ _ _ _ _ _ _ _ _ _ _ _ _ _ => no_all) qX14_ok gX14_ok (fun q hq => ⟨thX14_ok q hq, by decide, by decide⟩) ?_ ?_
  · rintro _ S ⟨rfl, hp⟩
    refine ⟨Nat.le_of_ble_eq_true rfl, 300, ?_⟩
    show ((¬ c = 0 → (([] : List MV) = [] ∧ mret none (sp_rck c) [.inl c] S none S 0 0)) ∧ (c = 0 → (mthr (sp_rck c) [.inl c] S 1 S (0 + 1) (0 + 6))))
    exact ⟨fun h => ⟨rfl, trivial, ⟨rfl, rfl, hp.resolve_left h⟩, Nat.zero_le _, Nat.zero_le _⟩, fun h => ⟨⟨rfl, h, rfl⟩, Nat.le_refl _, Nat.le_refl _⟩⟩
  · exact fun _ _ _ _ _ h => by cases h
theorem u_rck (l : Launch) (hlt : l.stackTraces = false) : UsX l yX14_check (Cond.code yX14_check cX14_check 1 none) none 6 89 99 T_rck := by
  intro Rc Rs av S cs sl K Kx h
  unfold T_rck at h
  split at h
  · rename_i c
    obtain ⟨hp, hc, hs, hk, hx0⟩ := h
    refine ⟨(sp_rck c), c_rck l hlt c, fun _ _ _ => trivial, ⟨rfl, hp⟩, hc, hs, fun S' h8 => by
      obtain ⟨-, h8⟩ := h8
      exact hk _ h8, fun _ _ q => by
      rcases q with ⟨rfl, q⟩
      · obtain ⟨q, rfl⟩ := q
        exact hx0 q⟩
  · exact h.elim
def T_rth : TR := fun Rc Rs av S cs sl K Kx => match av with
  | [.inl c] => (c = 0 ∨ c = 1) ∧ cs + 1 ≤ Rc ∧ sl + 6 ≤ Rs ∧ ((∀ (S' : MM), (S' = S ∧ c = 1) → K none S' (cs + 1) (sl + 6)) ∧ ((c = 0) → Kx 2 S (cs + 1) (sl + 6)))
  | _ => False
def sp_rth (c : Int32)  : Sp := (fun av S => av = [.inl c] ∧ (c = 0 ∨ c = 1), fun _ S => 1, fun _ S => 6, fun _ S rv S' => rv = none ∧ (S' = S ∧ c = 1), fun _ S E S' => (E = 2 ∧ (c = 0) ∧ S' = S))
def tX14_there : CD := [(0, .iload_n 0), (1, .ifCond .ne 11), (4, .new 141), (7, .dup), (8, .invokespecial 143), (11, .athrow), (12, .return_)]
set_option maxRecDepth 100000 in
theorem kX14_there : chk cX14_there tX14_there = true := by decide +kernel

set_option maxRecDepth 100000 in
set_option maxHeartbeats 2000000 in
theorem c_rth (l : Launch) (hlt : l.stackTraces = false) : ∀ (c : Int32), CtX l yX14_there (Cond.code yX14_there cX14_there 1 none) none 6 89 (sp_rth c) := by
  intro c
  refine CtX.of hlt (fX14, nX14, aX14, iX14, lX14, [], qX14, gX14, thX14) false tX14_there (fun _ _ _ => none) (by decide) (by decide) kX14_there ⟨_, _, rfl⟩ fX14_ok nX14_ok aX14_ok iX14_ok lX14_ok (fun _ _ _ _ _ _ _ _ _ _ _ _ _ _ _ _ _ _ => no_all) qX14_ok gX14_ok (fun q hq => ⟨thX14_ok q hq, by decide, by decide⟩) ?_ ?_
  · rintro _ S ⟨rfl, hp⟩
    refine ⟨Nat.le_of_ble_eq_true rfl, 300, ?_⟩
    show ((¬ c = 0 → (([] : List MV) = [] ∧ mret none (sp_rth c) [.inl c] S none S 0 0)) ∧ (c = 0 → (mthr (sp_rth c) [.inl c] S 2 S (0 + 1) (0 + 6))))
    exact ⟨fun h => ⟨rfl, trivial, ⟨rfl, rfl, hp.resolve_left h⟩, Nat.zero_le _, Nat.zero_le _⟩, fun h => ⟨⟨rfl, h, rfl⟩, Nat.le_refl _, Nat.le_refl _⟩⟩
  · exact fun _ _ _ _ _ h => by cases h
theorem u_rth (l : Launch) (hlt : l.stackTraces = false) : UsX l yX14_there (Cond.code yX14_there cX14_there 1 none) none 6 89 99 T_rth := by
  intro Rc Rs av S cs sl K Kx h
  unfold T_rth at h
  split at h
  · rename_i c
    obtain ⟨hp, hc, hs, hk, hx0⟩ := h
    refine ⟨(sp_rth c), c_rth l hlt c, fun _ _ _ => trivial, ⟨rfl, hp⟩, hc, hs, fun S' h8 => by
      obtain ⟨-, h8⟩ := h8
      exact hk _ h8, fun _ _ q => by
      rcases q with ⟨rfl, q⟩
      · obtain ⟨q, rfl⟩ := q
        exact hx0 q⟩
  · exact h.elim
def T_rnr : TR := fun Rc Rs av S cs sl K Kx => match av with
  | [.inr (.inr md_o), .inr (.inr g_o), .inl a_v, .inl n_v] => pa md_o fun md => (pa g_o fun g => (∃ (a : Nat), a_v = nI a ∧ (∃ (n : Nat), n_v = nI n ∧ (∃ (F : Nat → Nat × Nat) (i : Nat) (y : Nat → Nat) (G : Gr) (T : Tr), (isO S 15 md ∧ g = y 0 ∧ RG S F i y G T ∧ a < 256 ∧ n ≤ 100000) ∧ cs + 1 ≤ Rc ∧ sl + 6 ≤ Rs ∧ ((∀ (S' : MM), (S' = S ∧ (n = 0 ∨ G.n + n ≤ 8192 ∧ (hasAg G a ∨ G.m < 16))) → K none S' (cs + 1) (sl + 6)) ∧ ((n ≠ 0 ∧ (8192 < G.n + n ∨ ¬ hasAg G a ∧ G.m = 16)) → Kx 0 S (cs + 1) (sl + 6)))))))
  | _ => False
def sp_rnr (md : Nat) (g : Nat) (a : Nat) (n : Nat) (F : Nat → Nat × Nat) (i : Nat) (y : Nat → Nat) (G : Gr) (T : Tr) : Sp := (fun av S => av = [.inr (.inr (some md)), .inr (.inr (some g)), .inl (nI a), .inl (nI n)] ∧ (isO S 15 md ∧ g = y 0 ∧ RG S F i y G T ∧ a < 256 ∧ n ≤ 100000), fun _ S => 1, fun _ S => 6, fun _ S rv S' => rv = none ∧ (S' = S ∧ (n = 0 ∨ G.n + n ≤ 8192 ∧ (hasAg G a ∨ G.m < 16))), fun _ S E S' => (E = 0 ∧ (n ≠ 0 ∧ (8192 < G.n + n ∨ ¬ hasAg G a ∧ G.m = 16)) ∧ S' = S))
def tX14_needRoom : CD := [(0, .iload_n 3), (1, .ifCond .le 40), (4, .aload_n 1), (5, .getfield 173), (8, .iload_n 3), (9, .iadd), (10, .sipush 8192), (13, .if_icmp .gt 20), (16, .aload_n 1), (17, .iload_n 2), (18, .invokevirtual 176), (21, .ifCond .ge 20), (24, .aload_n 1), (25, .getfield 180), (28, .bipush 16), (30, .if_icmp .ne 11), (33, .new 156), (36, .dup), (37, .invokespecial 158), (40, .athrow), (41, .return_)]
set_option maxRecDepth 100000 in
theorem kX14_needRoom : chk cX14_needRoom tX14_needRoom = true := by decide +kernel
theorem vX14_needRoom_176 : ∀ w ∈ ([.methodLink RX14 176 yX12_slotOf, .instanceMethod yX12_slotOf, .selects yX12_slotOf.cls yX12_slotOf yX12_slotOf, .initialized yX12_slotOf.cls, .code yX12_slotOf cX12_slotOf 3 (some .int)] : List Cond), w ∈ lw_good := List.forall_mem_cons.mpr ⟨mgd 1975 (by decide +kernel) (by decide +kernel), List.forall_mem_cons.mpr ⟨mgd 1976 (by decide +kernel) (by decide +kernel), List.forall_mem_cons.mpr ⟨mgd 1977 (by decide +kernel) (by decide +kernel), List.forall_mem_cons.mpr ⟨mgd 138 (by decide +kernel) (by decide +kernel), List.forall_mem_cons.mpr ⟨mgd 1978 (by decide +kernel) (by decide +kernel), fun _ h => absurd h List.not_mem_nil⟩⟩⟩⟩⟩
set_option maxRecDepth 100000 in
set_option maxHeartbeats 2000000 in
theorem c_rnr (l : Launch) (hlt : l.stackTraces = false) : ∀ (md : Nat) (g : Nat) (a : Nat) (n : Nat) (F : Nat → Nat × Nat) (i : Nat) (y : Nat → Nat) (G : Gr) (T : Tr), CtX l yX14_needRoom (Cond.code yX14_needRoom cX14_needRoom 4 none) none 6 89 (sp_rnr md g a n F i y G T) := by
  intro md g a n F i y G T
  refine CtX.of hlt (fX14, nX14, aX14, iX14, lX14, [(176, 0, 2, 1, T_rsl)], qX14, gX14, thX14) false tX14_needRoom (fun _ _ _ => none) (by decide) (by decide) kX14_needRoom ⟨_, _, rfl⟩ fX14_ok nX14_ok aX14_ok iX14_ok lX14_ok (fun p e R s m args below meth c Q D cy z r A C hR1 hR2 => List.forall_mem_cons.mpr ⟨cOK_use (fun _ _ _ _ _ _ _ _ h => let ⟨sp, h1, h2, h3⟩ := u_rsl l _ _ _ _ _ _ _ _ h; ⟨sp, cOK_V C h1 vX14_needRoom_176 ⟨by decide, by decide, by decide +kernel⟩ ⟨by rw [hR1]; decide, by rw [hR2]; decide⟩ (k := 13) (T := TX12) (N := 27) rfl (by decide) h2, h3⟩), fun _ h => absurd h List.not_mem_nil⟩) qX14_ok gX14_ok (fun q hq => ⟨thX14_ok q hq, by decide, by decide⟩) ?_ ?_
  · rintro _ S ⟨rfl, hp⟩
    refine ⟨Nat.le_of_ble_eq_true rfl, 300, ?_⟩
    show (((nI n) ≤ 0 → (([] : List MV) = [] ∧ mret none (sp_rnr md g a n F i y G T) [.inr (.inr (some md)), .inr (.inr (some g)), .inl (nI a), .inl (nI n)] S none S 0 0)) ∧ (¬ (nI n) ≤ 0 → (isO S 13 g ∧ (((8192 : Int32) < ((mI S 1300 g) + (nI n)) → (mthr (sp_rnr md g a n F i y G T) [.inr (.inr (some md)), .inr (.inr (some g)), .inl (nI a), .inl (nI n)] S 0 S (0 + 1) (0 + 6))) ∧ (¬ (8192 : Int32) < ((mI S 1300 g) + (nI n)) → (0 = 0 ∧ (∃ (a_1 : Nat), nI a = nI a_1 ∧ (∃ (F_2 : Nat → Nat × Nat) (i_3 : Nat) (y_4 : Nat → Nat) (G_5 : Gr) (T_6 : Tr), (g = y_4 0 ∧ RG S F_2 i_3 y_4 G_5 T_6 ∧ a_1 < 256) ∧ 0 ≤ 1 ∧ 0 ≤ 6 ∧ (∀ (x_8 : Int32), (slR G_5 a_1 x_8) → ((0 ≤ x_8 → (([] : List MV) = [] ∧ mret none (sp_rnr md g a n F i y G T) [.inr (.inr (some md)), .inr (.inr (some g)), .inl (nI a), .inl (nI n)] S none S 0 0)) ∧ (¬ 0 ≤ x_8 → (isO S 13 g ∧ ((¬ (mI S 1301 g) = (16 : Int32) → (([] : List MV) = [] ∧ mret none (sp_rnr md g a n F i y G T) [.inr (.inr (some md)), .inr (.inr (some g)), .inl (nI a), .inl (nI n)] S none S 0 0)) ∧ ((mI S 1301 g) = (16 : Int32) → (mthr (sp_rnr md g a n F i y G T) [.inr (.inr (some md)), .inr (.inr (some g)), .inl (nI a), .inl (nI n)] S 0 S (0 + 1) (0 + 6))))))))))))))))
    obtain ⟨hmd, rfl, h, ha, hn⟩ := hp
    have hnm := h.nm
    have m0 : mI S 1300 (y 0) = nI G.n := (h 2).1
    have m1 : mI S 1301 (y 0) = nI G.m := (h 2).2.1
    rw [m0, m1, nI_plus]
    refine if_le (b := 0) (by omega) (by decide) (fun q => ⟨rfl, trivial, ⟨rfl, rfl, Or.inl (by omega)⟩, Nat.zero_le _, Nat.zero_le _⟩) (fun q => ⟨(h 0).1, if_lt (a := 8192) (by decide) (by omega) (fun w => ⟨⟨rfl, ⟨by omega, Or.inl w⟩, rfl⟩, Nat.le_refl _, Nat.le_refl _⟩) (fun w => ⟨rfl, a, rfl, F, i, y, G, T, ⟨rfl, h, ha⟩, by decide, by decide, fun x hx => ?_⟩)⟩)
    rcases hx with ⟨rfl, hno⟩ | ⟨s, hs, hag, rfl⟩
    · have hno' : ¬ hasAg G a := fun ⟨s, hs, e⟩ => hno s hs e
      refine ⟨fun z => absurd z (by decide), fun _ => ⟨(h 0).1, fun z => ⟨rfl, trivial, ⟨rfl, rfl, Or.inr ⟨w, Or.inr ?_⟩⟩, Nat.zero_le _, Nat.zero_le _⟩, fun z => ⟨⟨rfl, ⟨by omega, Or.inr ⟨hno', ?_⟩⟩, rfl⟩, Nat.le_refl _, Nat.le_refl _⟩⟩⟩
      · have : G.m ≠ 16 := fun c => z (by rw [c]; rfl)
        omega
      · exact (nI_eq (b := 16) (by omega) (by decide)).1 z
    · exact ⟨fun _ => ⟨rfl, trivial, ⟨rfl, rfl, Or.inr ⟨w, Or.inl ⟨s, hs, hag⟩⟩⟩, Nat.zero_le _, Nat.zero_le _⟩, fun z => absurd (nI_pos' (show s < 2147483648 by omega)) z⟩
  · exact fun _ _ _ _ _ h => by cases h
theorem u_rnr (l : Launch) (hlt : l.stackTraces = false) : UsX l yX14_needRoom (Cond.code yX14_needRoom cX14_needRoom 4 none) none 6 89 15 T_rnr := by
  intro Rc Rs av S cs sl K Kx h
  unfold T_rnr at h
  split at h
  · rename_i md_o g_o a_v n_v
    obtain ⟨md, rfl, h_1⟩ := pa_of h
    obtain ⟨g, rfl, h_2⟩ := pa_of h_1
    obtain ⟨a, rfl, h_3⟩ := h_2
    obtain ⟨n, rfl, h_4⟩ := h_3
    obtain ⟨F, i, y, G, T, hp, hc, hs, hk, hx0⟩ := h_4
    refine ⟨(sp_rnr md g a n F i y G T), c_rnr l hlt md g a n F i y G T, fun _ _ h9 => ⟨_, _, h9.1, h9.2.1⟩, ⟨rfl, hp⟩, hc, hs, fun S' h8 => by
      obtain ⟨-, h8⟩ := h8
      exact hk _ h8, fun _ _ q => by
      rcases q with ⟨rfl, q⟩
      · obtain ⟨q, rfl⟩ := q
        exact hx0 q⟩
  · exact h.elim
def T_rid : TR := fun Rc Rs av S cs sl K _Kx => match av with
  | [.inr (.inr g_o), .inl e_v] => pa g_o fun g => (∃ (e : Nat), e_v = nI e ∧ (∃ (F : Nat → Nat × Nat) (i : Nat) (y : Nat → Nat) (G : Gr) (T : Tr), (g = y 0 ∧ RG S F i y G T ∧ e < G.n) ∧ cs ≤ Rc ∧ sl ≤ Rs ∧ (K (some (.inr (.inl (lN (G.key e))))) S cs sl)))
  | _ => False
def sp_rid (g : Nat) (e : Nat) (F : Nat → Nat × Nat) (i : Nat) (y : Nat → Nat) (G : Gr) (T : Tr) : Sp := (fun av S => av = [.inr (.inr (some g)), .inl (nI e)] ∧ (g = y 0 ∧ RG S F i y G T ∧ e < G.n), fun _ S => 0, fun _ S => 0, fun _ S rv S' => rv = (some (.inr (.inl (lN (G.key e))))) ∧ S' = S, fun _ _ _ _ => False)
def tX14_id : CD := [(0, .aload_n 0), (1, .getfield 265), (4, .aload_n 0), (5, .getfield 268), (8, .iload_n 1), (9, .iaload), (10, .iaload), (11, .i2l), (12, .bipush 32), (14, .lshl), (15, .aload_n 0), (16, .getfield 271), (19, .iload_n 1), (20, .iaload), (21, .i2l), (22, .ladd), (23, .lreturn)]
set_option maxRecDepth 100000 in
theorem kX14_id : chk cX14_id tX14_id = true := by decide +kernel

set_option maxRecDepth 100000 in
set_option maxHeartbeats 2000000 in
theorem c_rid (l : Launch) : ∀ (g : Nat) (e : Nat) (F : Nat → Nat × Nat) (i : Nat) (y : Nat → Nat) (G : Gr) (T : Tr), Ct l yX14_id cX14_id 2 (some .long) 0 0 (sp_rid g e F i y G T) := by
  intro g e F i y G T
  refine Ct.of (fX14, nX14, aX14, iX14, lX14, [], qX14, gX14, []) false tX14_id (fun _ _ _ => none) (by decide) (by decide) kX14_id ⟨_, _, rfl⟩ fX14_ok nX14_ok aX14_ok iX14_ok lX14_ok (fun _ _ _ _ _ _ _ _ _ _ _ _ _ _ _ _ _ _ => no_all) qX14_ok gX14_ok rfl ?_ ?_
  · rintro _ S ⟨rfl, hp⟩
    refine ⟨Nat.le_of_ble_eq_true rfl, 300, ?_⟩
    show (isO S 13 g ∧ (isO S 13 g ∧ (pa (mR S 1306 g) fun a_1 => ∃ v_2 : Int32, (isO S 17 a_1 ∧ inR S a_1 (nI e) ∧ v_2 = eI S a_1 (nI e).toNatClampNeg ∨ a_1 = (mQ S).1 ∧ vp_in (nI e) 16 ∧ v_2 = mRem (nI e).toNatClampNeg) ∧ (pa (mR S 1303 g) fun a_3 => ∃ v_4 : Int32, (isO S 17 a_3 ∧ inR S a_3 v_2 ∧ v_4 = eI S a_3 v_2.toNatClampNeg ∨ a_3 = (mQ S).1 ∧ vp_in v_2 16 ∧ v_4 = mRem v_2.toNatClampNeg) ∧ (isO S 13 g ∧ (pa (mR S 1307 g) fun a_5 => ∃ v_6 : Int32, (isO S 17 a_5 ∧ inR S a_5 (nI e) ∧ v_6 = eI S a_5 (nI e).toNatClampNeg ∨ a_5 = (mQ S).1 ∧ vp_in (nI e) 16 ∧ v_6 = mRem (nI e).toNatClampNeg) ∧ (([] : List MV) = [] ∧ mret (some .long) (sp_rid g e F i y G T) [.inr (.inr (some g)), .inl (nI e)] S (some (.inr (.inl ((v_4.toInt64 <<< ((32 : Int32).toInt64 &&& 63)) + v_6.toInt64)))) S 0 0)))))))
    obtain ⟨rfl, h, he⟩ := hp
    have s1 := h.ok.sl1 e he
    have s2 := h.ok.ag1 _ s1
    have s3 := nu_le h.ok he
    refine ⟨(h 0).1, (h 0).1, h.g6 he (h.g3 s1 ⟨(h 0).1, h.g7 he ⟨rfl, trivial, ⟨?_, rfl⟩, Nat.le_refl _, Nat.le_refl _⟩⟩)⟩
    rw [nI_l (by omega), nI_l (by omega), shl32 _ s2, lN_add, Gr.key]
  · exact fun _ _ _ _ _ h => by cases h
theorem u_rid (l : Launch) : Us l yX14_id cX14_id 2 (some .long) 0 0 99 T_rid := by
  intro Rc Rs av S cs sl K Kx h
  unfold T_rid at h
  split at h
  · rename_i g_o e_v
    obtain ⟨g, rfl, h_1⟩ := pa_of h
    obtain ⟨e, rfl, h_2⟩ := h_1
    obtain ⟨F, i, y, G, T, hp, hc, hs, hk⟩ := h_2
    refine ⟨(sp_rid g e F i y G T), c_rid l g e F i y G T, fun _ _ _ => trivial, ⟨rfl, hp⟩, hc, hs, fun v9 S' h8 => by
      obtain ⟨h7, h8⟩ := h8
      cases h7
      subst h8
      exact hk, fun _ _ q => q.elim⟩
  · exact h.elim
