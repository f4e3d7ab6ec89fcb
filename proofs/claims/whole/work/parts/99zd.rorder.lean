/-! ===== The reference's graph: walks over the order ===== -/
theorem tkf {p : Nat → Bool} {L : List Nat} {j : Nat} (hj : j < L.length) : ((L.take (j + 1)).filter p).length = ((L.take j).filter p).length + (if p (L.getD j 0) = true then 1 else 0) := by
  rw [List.take_succ_eq_append_getElem hj, List.filter_append, List.length_append, List.getD_eq_getElem?_getD, List.getElem?_eq_getElem hj]
  congr 1
  by_cases c : p L[j] = true
  · rw [List.filter_cons_of_pos c, if_pos (show p ((some L[j]).getD 0) = true from c)]; rfl
  · rw [List.filter_cons_of_neg c, if_neg (show ¬ p ((some L[j]).getD 0) = true from c)]; rfl
theorem tkf_le (p : Nat → Bool) (L : List Nat) (j : Nat) : ((L.take j).filter p).length ≤ (L.filter p).length := ((List.take_sublist j L).filter p).length_le
/-- the place of the i-th element that keeps p -/
def atP (L : List Nat) (p : Nat → Bool) (i j : Nat) : Prop := j < L.length ∧ p (L.getD j 0) = true ∧ ((L.take j).filter p).length = i
theorem fil_le (p : Nat → Bool) (L : List Nat) : (L.filter p).length ≤ L.length := List.length_filter_le p L
theorem nI_dec {n : Nat} (h : 0 < n) : nI n + -1 = nI (n - 1) := by
  obtain ⟨m, rfl⟩ : ∃ m, n = m + 1 := ⟨n - 1, by omega⟩
  rw [Nat.add_sub_cancel, ← nI_1, Int32.add_assoc, show (1 : Int32) + -1 = 0 from by decide, Int32.add_zero]
def I_rln (g : Nat) (p : Nat → Bool) (T : Tr) (S : MM) (k : Nat) : KT := fun lo st S1 cs sl => ∃ j, j + k = T.od.length ∧ lo = [(0, .inr (.inr (some g))), (1, .inl (nI ((T.od.take j).filter p).length)), (2, .inl (nI j))] ∧ st = [] ∧ S = S1 ∧ cs = 0 ∧ sl = 0
def T_rln : TR := fun Rc Rs av S cs sl K _Kx => match av with
  | [.inr (.inr g_o)] => pa g_o fun g => (∃ (F : Nat → Nat × Nat) (i : Nat) (y : Nat → Nat) (G : Gr) (T : Tr), (g = y 0 ∧ RG S F i y G T) ∧ cs ≤ Rc ∧ sl ≤ Rs ∧ (K (some (.inl (nI (T.od.filter (vis G)).length))) S cs sl))
  | _ => False
def sp_rln (g : Nat) (F : Nat → Nat × Nat) (i : Nat) (y : Nat → Nat) (G : Gr) (T : Tr) : Sp := (fun av S => av = [.inr (.inr (some g))] ∧ (g = y 0 ∧ RG S F i y G T), fun _ S => 0, fun _ S => 0, fun _ S rv S' => rv = (some (.inl (nI (T.od.filter (vis G)).length))) ∧ S' = S, fun _ _ _ _ => False)
def tX12_length : CD := [(0, .iconst 0), (1, .istore_n 1), (2, .iconst 0), (3, .istore_n 2), (4, .iload_n 2), (5, .aload_n 0), (6, .getfield 98), (9, .if_icmp .ge 25), (12, .aload_n 0), (13, .aload_n 0), (14, .getfield 72), (17, .iload_n 2), (18, .iaload), (19, .invokevirtual 104), (22, .ifCond .eq 6), (25, .iinc 1 1), (28, .iinc 2 1), (31, .goto (-27)), (34, .iload_n 1), (35, .ireturn)]
set_option maxRecDepth 100000 in
theorem kX12_length : chk cX12_length tX12_length = true := by decide +kernel
theorem vX12_length_104 : ∀ w ∈ ([.methodLink RX12 104 yX12_isShown, .instanceMethod yX12_isShown, .selects yX12_isShown.cls yX12_isShown yX12_isShown, .initialized yX12_isShown.cls, .code yX12_isShown cX12_isShown 2 (some .boolean)] : List Cond), w ∈ lw_good := List.forall_mem_cons.mpr ⟨mgd 1954 (by decide +kernel) (by decide +kernel), List.forall_mem_cons.mpr ⟨mgd 1955 (by decide +kernel) (by decide +kernel), List.forall_mem_cons.mpr ⟨mgd 1956 (by decide +kernel) (by decide +kernel), List.forall_mem_cons.mpr ⟨mgd 138 (by decide +kernel) (by decide +kernel), List.forall_mem_cons.mpr ⟨mgd 1957 (by decide +kernel) (by decide +kernel), fun _ h => absurd h List.not_mem_nil⟩⟩⟩⟩⟩
set_option maxRecDepth 100000 in
set_option maxHeartbeats 2000000 in
theorem c_rln (l : Launch) : ∀ (g : Nat) (F : Nat → Nat × Nat) (i : Nat) (y : Nat → Nat) (G : Gr) (T : Tr), Ct l yX12_length cX12_length 3 (some .int) 1 21 (sp_rln g F i y G T) := by
  intro g F i y G T
  refine Ct.of (fX12, nX12, aX12, iX12, lX12, [(104, 0, 2, 1, T_rish)], qX12, gX12, []) false tX12_length (fun _ S => look [(4, ([0,1,2], I_rln g (vis G) T S))]) (by decide) (by decide) kX12_length ⟨_, _, rfl⟩ fX12_ok nX12_ok aX12_ok iX12_ok lX12_ok (fun p e R s m args below meth c Q D cy z r A C hR1 hR2 => List.forall_mem_cons.mpr ⟨cOK_use (fun _ _ _ _ _ _ _ _ h => let ⟨sp, h1, h2, h3⟩ := u_rish l _ _ _ _ _ _ _ _ h; ⟨sp, cOK_V C h1 vX12_length_104 ⟨by decide, by decide, by decide +kernel⟩ ⟨by rw [hR1]; decide, by rw [hR2]; decide⟩ (k := 13) (T := TX12) (N := 27) rfl (by decide) h2, h3⟩), fun _ h => absurd h List.not_mem_nil⟩) qX12_ok gX12_ok rfl ?_ ?_
  · rintro _ S ⟨rfl, hp⟩
    refine ⟨Nat.le_of_ble_eq_true rfl, 300, ?_⟩
    show (∃ k1, I_rln g (vis G) T S k1 [(0, .inr (.inr (some g))), (1, .inl (0 : Int32)), (2, .inl (0 : Int32))] [] S 0 0)
    obtain ⟨rfl, h⟩ := hp
    exact ⟨T.od.length, 0, by omega, rfl, rfl, rfl, rfl, rfl⟩
  · intro av S hpre pc I hI k lo st S1 cs sl h
    obtain ⟨rfl, hp⟩ := hpre
    have hm := look_in hI
    rw [List.mem_singleton] at hm
    cases hm
    obtain ⟨j, hj, rfl, rfl, rfl, rfl, rfl⟩ := h
    refine ⟨300, ?_⟩
    show (isO S 13 g ∧ (((mI S 1302 g) ≤ (nI j) → (([] : List MV) = [] ∧ mret (some .int) (sp_rln g F i y G T) [.inr (.inr (some g))] S (some (.inl (nI ((T.od.take j).filter (vis G)).length))) S 0 0)) ∧ (¬ (mI S 1302 g) ≤ (nI j) → (isO S 13 g ∧ (pa (mR S 1321 g) fun a_1 => ∃ v_2 : Int32, (isO S 17 a_1 ∧ inR S a_1 (nI j) ∧ v_2 = eI S a_1 (nI j).toNatClampNeg ∨ a_1 = (mQ S).1 ∧ vp_in (nI j) 16 ∧ v_2 = mRem (nI j).toNatClampNeg) ∧ (0 = 0 ∧ (∃ (k1_3 : Nat), v_2 = nI k1_3 ∧ (∃ (F_4 : Nat → Nat × Nat) (i_5 : Nat) (y_6 : Nat → Nat) (G_7 : Gr) (T_8 : Tr), (g = y_6 0 ∧ RG S F_4 i_5 y_6 G_7 T_8 ∧ k1_3 < G_7.n) ∧ 0 ≤ 0 ∧ 0 ≤ 0 ∧ ((((bI (vis G_7 (k1_3 + 1))) = 0 → (∃ k1, k1 < k ∧ I_rln g (vis G) T S k1 [(0, .inr (.inr (some g))), (1, .inl (nI ((T.od.take j).filter (vis G)).length)), (2, .inl ((nI j) + (1 : Int32)))] [] S 0 0)) ∧ (¬ (bI (vis G_7 (k1_3 + 1))) = 0 → (∃ k1, k1 < k ∧ I_rln g (vis G) T S k1 [(0, .inr (.inr (some g))), (1, .inl ((nI ((T.od.take j).filter (vis G)).length) + (1 : Int32))), (2, .inl ((nI j) + (1 : Int32)))] [] S 0 0))))))))))))
    obtain ⟨rfl, h⟩ := hp
    have hnm := h.nm
    have hol := h.odl
    have e1 : mI S 1302 (y 0) = nI T.od.length := (h 2).2.2
    rw [e1]
    refine ⟨(h 0).1, if_le (by omega) (by omega) (fun q => ⟨rfl, trivial, ⟨?_, rfl⟩, Nat.le_refl _, Nat.le_refl _⟩) (fun q => ?_)⟩
    · rw [List.take_of_length_le q]
    · obtain ⟨x, hx, hxn, hxc, hxo⟩ := h.odn q
      have ht := tkf (p := vis G) q
      refine ⟨(h 0).1, h.g21 q ⟨rfl, x, by rw [hx]; rfl, F, i, y, G, T, ⟨rfl, h, hxn⟩, Nat.le_refl _, Nat.le_refl _, fun w => ?_, fun w => ?_⟩⟩
      · rw [bI_0] at w
        rw [hx, w] at ht
        exact ⟨k - 1, by omega, j + 1, by omega, by rw [ht, nI_1]; rfl, rfl, rfl, rfl, rfl⟩
      · rw [bI_0, Bool.not_eq_false] at w
        rw [hx, w] at ht
        exact ⟨k - 1, by omega, j + 1, by omega, by rw [ht, if_pos rfl, nI_1, nI_1], rfl, rfl, rfl, rfl⟩
theorem u_rln (l : Launch) : Us l yX12_length cX12_length 3 (some .int) 1 21 13 T_rln := by
  intro Rc Rs av S cs sl K Kx h
  unfold T_rln at h
  split at h
  · rename_i g_o
    obtain ⟨g, rfl, h_1⟩ := pa_of h
    obtain ⟨F, i, y, G, T, hp, hc, hs, hk⟩ := h_1
    refine ⟨(sp_rln g F i y G T), c_rln l g F i y G T, fun _ _ h9 => ⟨_, _, h9.1, (h9.2.1 ▸ (h9.2.2 0).1)⟩, ⟨rfl, hp⟩, hc, hs, fun v9 S' h8 => by
      obtain ⟨h7, h8⟩ := h8
      cases h7
      subst h8
      exact hk, fun _ _ q => q.elim⟩
  · exact h.elim
def I_rsm (g r o : Nat) (p : Nat → Bool) (T : Tr) (S : MM) (k : Nat) : KT := fun lo st S1 cs sl => ∃ j, j + k = T.od.length ∧ lo = [(0, .inr (.inr (some g))), (1, .inr (.inr (some r))), (2, .inl (nI o)), (3, .inl (nI ((T.od.take j).filter p).length)), (4, .inl (nI j))] ∧ st = [] ∧ S = S1 ∧ cs = 0 ∧ sl = 0
def T_rsm : TR := fun Rc Rs av S cs sl K _Kx => match av with
  | [.inr (.inr g_o), .inr (.inr r_o), .inl o_v] => pa g_o fun g => (pa r_o fun r => (∃ (o : Nat), o_v = nI o ∧ (∃ (F : Nat → Nat × Nat) (i : Nat) (y : Nat → Nat) (G : Gr) (T : Tr) (W : Nat → Nat), (g = y 0 ∧ RG S F i y G T ∧ StR S r o W) ∧ cs ≤ Rc ∧ sl ≤ Rs ∧ (K (some (.inl (nI (T.od.filter (snW G W)).length))) S cs sl))))
  | _ => False
def sp_rsm (g : Nat) (r : Nat) (o : Nat) (F : Nat → Nat × Nat) (i : Nat) (y : Nat → Nat) (G : Gr) (T : Tr) (W : Nat → Nat) : Sp := (fun av S => av = [.inr (.inr (some g)), .inr (.inr (some r)), .inl (nI o)] ∧ (g = y 0 ∧ RG S F i y G T ∧ StR S r o W), fun _ S => 0, fun _ S => 0, fun _ S rv S' => rv = (some (.inl (nI (T.od.filter (snW G W)).length))) ∧ S' = S, fun _ _ _ _ => False)
def tX12_seenMany : CD := [(0, .iconst 0), (1, .istore_n 3), (2, .iconst 0), (3, .istore 4), (5, .iload 4), (7, .aload_n 0), (8, .getfield 98), (11, .if_icmp .ge 28), (14, .aload_n 0), (15, .aload_n 1), (16, .iload_n 2), (17, .aload_n 0), (18, .getfield 72), (21, .iload 4), (23, .iaload), (24, .invokevirtual 101), (27, .ifCond .eq 6), (30, .iinc 3 1), (33, .iinc 4 1), (36, .goto (-31)), (39, .iload_n 3), (40, .ireturn)]
set_option maxRecDepth 100000 in
theorem kX12_seenMany : chk cX12_seenMany tX12_seenMany = true := by decide +kernel
theorem vX12_seenMany_101 : ∀ w ∈ ([.methodLink RX12 101 yX12_isSeen, .instanceMethod yX12_isSeen, .selects yX12_isSeen.cls yX12_isSeen yX12_isSeen, .initialized yX12_isSeen.cls, .code yX12_isSeen cX12_isSeen 5 (some .boolean)] : List Cond), w ∈ lw_good := List.forall_mem_cons.mpr ⟨mgd 2005 (by decide +kernel) (by decide +kernel), List.forall_mem_cons.mpr ⟨mgd 2006 (by decide +kernel) (by decide +kernel), List.forall_mem_cons.mpr ⟨mgd 2007 (by decide +kernel) (by decide +kernel), List.forall_mem_cons.mpr ⟨mgd 138 (by decide +kernel) (by decide +kernel), List.forall_mem_cons.mpr ⟨mgd 2008 (by decide +kernel) (by decide +kernel), fun _ h => absurd h List.not_mem_nil⟩⟩⟩⟩⟩
set_option maxRecDepth 100000 in
set_option maxHeartbeats 2000000 in
theorem c_rsm (l : Launch) : ∀ (g : Nat) (r : Nat) (o : Nat) (F : Nat → Nat × Nat) (i : Nat) (y : Nat → Nat) (G : Gr) (T : Tr) (W : Nat → Nat), Ct l yX12_seenMany cX12_seenMany 5 (some .int) 2 47 (sp_rsm g r o F i y G T W) := by
  intro g r o F i y G T W
  refine Ct.of (fX12, nX12, aX12, iX12, lX12, [(101, 0, 4, 1, T_rsn)], qX12, gX12, []) false tX12_seenMany (fun _ S => look [(5, ([0,1,2,3,4], I_rsm g r o (snW G W) T S))]) (by decide) (by decide) kX12_seenMany ⟨_, _, rfl⟩ fX12_ok nX12_ok aX12_ok iX12_ok lX12_ok (fun p e R s m args below meth c Q D cy z r A C hR1 hR2 => List.forall_mem_cons.mpr ⟨cOK_use (fun _ _ _ _ _ _ _ _ h => let ⟨sp, h1, h2, h3⟩ := u_rsn l _ _ _ _ _ _ _ _ h; ⟨sp, cOK_V C h1 vX12_seenMany_101 ⟨by decide, by decide, by decide +kernel⟩ ⟨by rw [hR1]; decide, by rw [hR2]; decide⟩ (k := 13) (T := TX12) (N := 27) rfl (by decide) h2, h3⟩), fun _ h => absurd h List.not_mem_nil⟩) qX12_ok gX12_ok rfl ?_ ?_
  · rintro _ S ⟨rfl, hp⟩
    refine ⟨Nat.le_of_ble_eq_true rfl, 300, ?_⟩
    show (∃ k1, I_rsm g r o (snW G W) T S k1 [(0, .inr (.inr (some g))), (1, .inr (.inr (some r))), (2, .inl (nI o)), (3, .inl (0 : Int32)), (4, .inl (0 : Int32))] [] S 0 0)
    obtain ⟨rfl, h⟩ := hp
    exact ⟨T.od.length, 0, by omega, rfl, rfl, rfl, rfl, rfl⟩
  · intro av S hpre pc I hI k lo st S1 cs sl h
    obtain ⟨rfl, hp⟩ := hpre
    have hm := look_in hI
    rw [List.mem_singleton] at hm
    cases hm
    obtain ⟨j, hj, rfl, rfl, rfl, rfl, rfl⟩ := h
    refine ⟨300, ?_⟩
    show (isO S 13 g ∧ (((mI S 1302 g) ≤ (nI j) → (([] : List MV) = [] ∧ mret (some .int) (sp_rsm g r o F i y G T W) [.inr (.inr (some g)), .inr (.inr (some r)), .inl (nI o)] S (some (.inl (nI ((T.od.take j).filter (snW G W)).length))) S 0 0)) ∧ (¬ (mI S 1302 g) ≤ (nI j) → (isO S 13 g ∧ (pa (mR S 1321 g) fun a_1 => ∃ v_2 : Int32, (isO S 17 a_1 ∧ inR S a_1 (nI j) ∧ v_2 = eI S a_1 (nI j).toNatClampNeg ∨ a_1 = (mQ S).1 ∧ vp_in (nI j) 16 ∧ v_2 = mRem (nI j).toNatClampNeg) ∧ (0 = 0 ∧ (∃ (o_3 : Nat), nI o = nI o_3 ∧ (∃ (nd_4 : Nat), v_2 = nI nd_4 ∧ (∃ (F_5 : Nat → Nat × Nat) (i_6 : Nat) (y_7 : Nat → Nat) (G_8 : Gr) (T_9 : Tr) (W_10 : Nat → Nat), (g = y_7 0 ∧ RG S F_5 i_6 y_7 G_8 T_9 ∧ StR S r o_3 W_10 ∧ nd_4 < G_8.n) ∧ 0 ≤ 0 ∧ 0 ≤ 0 ∧ ((((bI (snW G_8 W_10 (nd_4 + 1))) = 0 → (∃ k1, k1 < k ∧ I_rsm g r o (snW G W) T S k1 [(0, .inr (.inr (some g))), (1, .inr (.inr (some r))), (2, .inl (nI o)), (3, .inl (nI ((T.od.take j).filter (snW G W)).length)), (4, .inl ((nI j) + (1 : Int32)))] [] S 0 0)) ∧ (¬ (bI (snW G_8 W_10 (nd_4 + 1))) = 0 → (∃ k1, k1 < k ∧ I_rsm g r o (snW G W) T S k1 [(0, .inr (.inr (some g))), (1, .inr (.inr (some r))), (2, .inl (nI o)), (3, .inl ((nI ((T.od.take j).filter (snW G W)).length) + (1 : Int32))), (4, .inl ((nI j) + (1 : Int32)))] [] S 0 0)))))))))))))
    obtain ⟨rfl, h, hw⟩ := hp
    have hnm := h.nm
    have hol := h.odl
    have e1 : mI S 1302 (y 0) = nI T.od.length := (h 2).2.2
    rw [e1]
    refine ⟨(h 0).1, if_le (by omega) (by omega) (fun q => ⟨rfl, trivial, ⟨?_, rfl⟩, Nat.le_refl _, Nat.le_refl _⟩) (fun q => ?_)⟩
    · rw [List.take_of_length_le q]
    · obtain ⟨x, hx, hxn, hxc, hxo⟩ := h.odn q
      have ht := tkf (p := snW G W) q
      refine ⟨(h 0).1, h.g21 q ⟨rfl, o, rfl, x, by rw [hx]; rfl, F, i, y, G, T, W, ⟨rfl, h, hw, hxn⟩, Nat.le_refl _, Nat.le_refl _, fun w => ?_, fun w => ?_⟩⟩
      · rw [bI_0] at w
        rw [hx, w] at ht
        exact ⟨k - 1, by omega, j + 1, by omega, by rw [ht, nI_1]; rfl, rfl, rfl, rfl, rfl⟩
      · rw [bI_0, Bool.not_eq_false] at w
        rw [hx, w] at ht
        exact ⟨k - 1, by omega, j + 1, by omega, by rw [ht, if_pos rfl, nI_1, nI_1], rfl, rfl, rfl, rfl⟩
theorem u_rsm (l : Launch) : Us l yX12_seenMany cX12_seenMany 5 (some .int) 2 47 13 T_rsm := by
  intro Rc Rs av S cs sl K Kx h
  unfold T_rsm at h
  split at h
  · rename_i g_o r_o o_v
    obtain ⟨g, rfl, h_1⟩ := pa_of h
    obtain ⟨r, rfl, h_2⟩ := pa_of h_1
    obtain ⟨o, rfl, h_3⟩ := h_2
    obtain ⟨F, i, y, G, T, W, hp, hc, hs, hk⟩ := h_3
    refine ⟨(sp_rsm g r o F i y G T W), c_rsm l g r o F i y G T W, fun _ _ h9 => ⟨_, _, h9.1, (h9.2.1 ▸ (h9.2.2.1 0).1)⟩, ⟨rfl, hp⟩, hc, hs, fun v9 S' h8 => by
      obtain ⟨h7, h8⟩ := h8
      cases h7
      subst h8
      exact hk, fun _ _ q => q.elim⟩
  · exact h.elim
def I_rsa (g r o ix : Nat) (p : Nat → Bool) (T : Tr) (S : MM) (k : Nat) : KT := fun lo st S1 cs sl => ∃ j lf, j + k = T.od.length ∧ lf + ((T.od.take j).filter p).length = ix ∧ lo = [(0, .inr (.inr (some g))), (1, .inr (.inr (some r))), (2, .inl (nI o)), (4, .inl (nI lf)), (5, .inl (nI j))] ∧ st = [] ∧ S = S1 ∧ cs = 0 ∧ sl = 0
def T_rsa : TR := fun Rc Rs av S cs sl K _Kx => match av with
  | [.inr (.inr g_o), .inr (.inr r_o), .inl o_v, .inl ix_v] => pa g_o fun g => (pa r_o fun r => (∃ (o : Nat), o_v = nI o ∧ (∃ (ix : Nat), ix_v = nI ix ∧ (∃ (F : Nat → Nat × Nat) (i : Nat) (y : Nat → Nat) (G : Gr) (T : Tr) (W : Nat → Nat), (g = y 0 ∧ RG S F i y G T ∧ StR S r o W ∧ ix < (T.od.filter (snW G W)).length) ∧ cs ≤ Rc ∧ sl ≤ Rs ∧ (∀ (v : Int32), (∃ j, atP T.od (snW G W) ix j ∧ v = nI j) → K (some (.inl v)) S cs sl)))))
  | _ => False
def sp_rsa (g : Nat) (r : Nat) (o : Nat) (ix : Nat) (F : Nat → Nat × Nat) (i : Nat) (y : Nat → Nat) (G : Gr) (T : Tr) (W : Nat → Nat) : Sp := (fun av S => av = [.inr (.inr (some g)), .inr (.inr (some r)), .inl (nI o), .inl (nI ix)] ∧ (g = y 0 ∧ RG S F i y G T ∧ StR S r o W ∧ ix < (T.od.filter (snW G W)).length), fun _ S => 0, fun _ S => 0, fun _ S rv S' => ∃ v, rv = (some (.inl v)) ∧ (∃ j, atP T.od (snW G W) ix j ∧ v = nI j) ∧ S' = S, fun _ _ _ _ => False)
def tX12_seenAt : CD := [(0, .iload_n 3), (1, .istore 4), (3, .iconst 0), (4, .istore 5), (6, .aload_n 0), (7, .aload_n 1), (8, .iload_n 2), (9, .aload_n 0), (10, .getfield 72), (13, .iload 5), (15, .iaload), (16, .invokevirtual 101), (19, .ifCond .eq 8), (22, .iload 4), (24, .ifCond .le 28), (27, .aload_n 0), (28, .aload_n 1), (29, .iload_n 2), (30, .aload_n 0), (31, .getfield 72), (34, .iload 5), (36, .iaload), (37, .invokevirtual 101), (40, .ifCond .eq 6), (43, .iinc 4 (-1)), (46, .iinc 5 1), (49, .goto (-43)), (52, .iload 5), (54, .ireturn)]
set_option maxRecDepth 100000 in
theorem kX12_seenAt : chk cX12_seenAt tX12_seenAt = true := by decide +kernel
theorem vX12_seenAt_101 : ∀ w ∈ ([.methodLink RX12 101 yX12_isSeen, .instanceMethod yX12_isSeen, .selects yX12_isSeen.cls yX12_isSeen yX12_isSeen, .initialized yX12_isSeen.cls, .code yX12_isSeen cX12_isSeen 5 (some .boolean)] : List Cond), w ∈ lw_good := List.forall_mem_cons.mpr ⟨mgd 2005 (by decide +kernel) (by decide +kernel), List.forall_mem_cons.mpr ⟨mgd 2006 (by decide +kernel) (by decide +kernel), List.forall_mem_cons.mpr ⟨mgd 2007 (by decide +kernel) (by decide +kernel), List.forall_mem_cons.mpr ⟨mgd 138 (by decide +kernel) (by decide +kernel), List.forall_mem_cons.mpr ⟨mgd 2008 (by decide +kernel) (by decide +kernel), fun _ h => absurd h List.not_mem_nil⟩⟩⟩⟩⟩
set_option maxRecDepth 100000 in
set_option maxHeartbeats 2000000 in
theorem c_rsa (l : Launch) : ∀ (g : Nat) (r : Nat) (o : Nat) (ix : Nat) (F : Nat → Nat × Nat) (i : Nat) (y : Nat → Nat) (G : Gr) (T : Tr) (W : Nat → Nat), Ct l yX12_seenAt cX12_seenAt 6 (some .int) 2 47 (sp_rsa g r o ix F i y G T W) := by
  intro g r o ix F i y G T W
  refine Ct.of (fX12, nX12, aX12, iX12, lX12, [(101, 0, 4, 1, T_rsn)], qX12, gX12, []) false tX12_seenAt (fun _ S => look [(6, ([0,1,2,4,5], I_rsa g r o ix (snW G W) T S))]) (by decide) (by decide) kX12_seenAt ⟨_, _, rfl⟩ fX12_ok nX12_ok aX12_ok iX12_ok lX12_ok (fun p e R s m args below meth c Q D cy z r A C hR1 hR2 => List.forall_mem_cons.mpr ⟨cOK_use (fun _ _ _ _ _ _ _ _ h => let ⟨sp, h1, h2, h3⟩ := u_rsn l _ _ _ _ _ _ _ _ h; ⟨sp, cOK_V C h1 vX12_seenAt_101 ⟨by decide, by decide, by decide +kernel⟩ ⟨by rw [hR1]; decide, by rw [hR2]; decide⟩ (k := 13) (T := TX12) (N := 27) rfl (by decide) h2, h3⟩), fun _ h => absurd h List.not_mem_nil⟩) qX12_ok gX12_ok rfl ?_ ?_
  · rintro _ S ⟨rfl, hp⟩
    refine ⟨Nat.le_of_ble_eq_true rfl, 300, ?_⟩
    show (∃ k1, I_rsa g r o ix (snW G W) T S k1 [(0, .inr (.inr (some g))), (1, .inr (.inr (some r))), (2, .inl (nI o)), (4, .inl (nI ix)), (5, .inl (0 : Int32))] [] S 0 0)
    obtain ⟨rfl, h⟩ := hp
    exact ⟨T.od.length, 0, ix, by omega, rfl, rfl, rfl, rfl, rfl, rfl⟩
  · intro av S hpre pc I hI k lo st S1 cs sl h
    obtain ⟨rfl, hp⟩ := hpre
    have hm := look_in hI
    rw [List.mem_singleton] at hm
    cases hm
    obtain ⟨j, lf, hj, hl, rfl, rfl, rfl, rfl, rfl⟩ := h
    refine ⟨300, ?_⟩
    show (isO S 13 g ∧ (pa (mR S 1321 g) fun a_1 => ∃ v_2 : Int32, (isO S 17 a_1 ∧ inR S a_1 (nI j) ∧ v_2 = eI S a_1 (nI j).toNatClampNeg ∨ a_1 = (mQ S).1 ∧ vp_in (nI j) 16 ∧ v_2 = mRem (nI j).toNatClampNeg) ∧ (0 = 0 ∧ (∃ (o_3 : Nat), nI o = nI o_3 ∧ (∃ (nd_4 : Nat), v_2 = nI nd_4 ∧ (∃ (F_5 : Nat → Nat × Nat) (i_6 : Nat) (y_7 : Nat → Nat) (G_8 : Gr) (T_9 : Tr) (W_10 : Nat → Nat), (g = y_7 0 ∧ RG S F_5 i_6 y_7 G_8 T_9 ∧ StR S r o_3 W_10 ∧ nd_4 < G_8.n) ∧ 0 ≤ 0 ∧ 0 ≤ 0 ∧ ((((bI (snW G_8 W_10 (nd_4 + 1))) = 0 → (isO S 13 g ∧ (pa (mR S 1321 g) fun a_12 => ∃ v_13 : Int32, (isO S 17 a_12 ∧ inR S a_12 (nI j) ∧ v_13 = eI S a_12 (nI j).toNatClampNeg ∨ a_12 = (mQ S).1 ∧ vp_in (nI j) 16 ∧ v_13 = mRem (nI j).toNatClampNeg) ∧ (0 = 0 ∧ (∃ (o_14 : Nat), nI o = nI o_14 ∧ (∃ (nd_15 : Nat), v_13 = nI nd_15 ∧ (∃ (F_16 : Nat → Nat × Nat) (i_17 : Nat) (y_18 : Nat → Nat) (G_19 : Gr) (T_20 : Tr) (W_21 : Nat → Nat), (g = y_18 0 ∧ RG S F_16 i_17 y_18 G_19 T_20 ∧ StR S r o_14 W_21 ∧ nd_15 < G_19.n) ∧ 0 ≤ 0 ∧ 0 ≤ 0 ∧ ((((bI (snW G_19 W_21 (nd_15 + 1))) = 0 → (∃ k1, k1 < k ∧ I_rsa g r o ix (snW G W) T S k1 [(0, .inr (.inr (some g))), (1, .inr (.inr (some r))), (2, .inl (nI o)), (4, .inl (nI lf)), (5, .inl ((nI j) + (1 : Int32)))] [] S 0 0)) ∧ (¬ (bI (snW G_19 W_21 (nd_15 + 1))) = 0 → (∃ k1, k1 < k ∧ I_rsa g r o ix (snW G W) T S k1 [(0, .inr (.inr (some g))), (1, .inr (.inr (some r))), (2, .inl (nI o)), (4, .inl ((nI lf) + (-1 : Int32))), (5, .inl ((nI j) + (1 : Int32)))] [] S 0 0))))))))))) ∧ (¬ (bI (snW G_8 W_10 (nd_4 + 1))) = 0 → (((nI lf) ≤ 0 → (([] : List MV) = [] ∧ mret (some .int) (sp_rsa g r o ix F i y G T W) [.inr (.inr (some g)), .inr (.inr (some r)), .inl (nI o), .inl (nI ix)] S (some (.inl (nI j))) S 0 0)) ∧ (¬ (nI lf) ≤ 0 → (isO S 13 g ∧ (pa (mR S 1321 g) fun a_23 => ∃ v_24 : Int32, (isO S 17 a_23 ∧ inR S a_23 (nI j) ∧ v_24 = eI S a_23 (nI j).toNatClampNeg ∨ a_23 = (mQ S).1 ∧ vp_in (nI j) 16 ∧ v_24 = mRem (nI j).toNatClampNeg) ∧ (0 = 0 ∧ (∃ (o_25 : Nat), nI o = nI o_25 ∧ (∃ (nd_26 : Nat), v_24 = nI nd_26 ∧ (∃ (F_27 : Nat → Nat × Nat) (i_28 : Nat) (y_29 : Nat → Nat) (G_30 : Gr) (T_31 : Tr) (W_32 : Nat → Nat), (g = y_29 0 ∧ RG S F_27 i_28 y_29 G_30 T_31 ∧ StR S r o_25 W_32 ∧ nd_26 < G_30.n) ∧ 0 ≤ 0 ∧ 0 ≤ 0 ∧ ((((bI (snW G_30 W_32 (nd_26 + 1))) = 0 → (∃ k1, k1 < k ∧ I_rsa g r o ix (snW G W) T S k1 [(0, .inr (.inr (some g))), (1, .inr (.inr (some r))), (2, .inl (nI o)), (4, .inl (nI lf)), (5, .inl ((nI j) + (1 : Int32)))] [] S 0 0)) ∧ (¬ (bI (snW G_30 W_32 (nd_26 + 1))) = 0 → (∃ k1, k1 < k ∧ I_rsa g r o ix (snW G W) T S k1 [(0, .inr (.inr (some g))), (1, .inr (.inr (some r))), (2, .inl (nI o)), (4, .inl ((nI lf) + (-1 : Int32))), (5, .inl ((nI j) + (1 : Int32)))] [] S 0 0)))))))))))))))))))))
    obtain ⟨rfl, h, hw, hix⟩ := hp
    have hnm := h.nm
    have hol := h.odl
    have fl := fil_le (snW G W) T.od
    have q : j < T.od.length := by
      refine Nat.lt_of_not_le (fun z => ?_)
      rw [List.take_of_length_le z] at hl
      omega
    obtain ⟨x, hx, hxn, hxc, hxo⟩ := h.odn q
    have ht := tkf (p := snW G W) q
    rw [hx] at ht
    refine ⟨(h 0).1, h.g21 q ⟨rfl, o, rfl, x, by rw [hx]; rfl, F, i, y, G, T, W, ⟨rfl, h, hw, hxn⟩, Nat.le_refl _, Nat.le_refl _, fun w => ⟨(h 0).1, h.g21 q ⟨rfl, o, rfl, x, by rw [hx]; rfl, F, i, y, G, T, W, ⟨rfl, h, hw, hxn⟩, Nat.le_refl _, Nat.le_refl _, fun _ => ?_, fun w1 => absurd w w1⟩⟩, fun w => if_le (b := 0) (by omega) (by decide) (fun z => ?_) (fun z => ⟨(h 0).1, h.g21 q ⟨rfl, o, rfl, x, by rw [hx]; rfl, F, i, y, G, T, W, ⟨rfl, h, hw, hxn⟩, Nat.le_refl _, Nat.le_refl _, fun w1 => absurd w1 w, fun _ => ?_⟩⟩)⟩⟩
    · rw [bI_0] at w
      rw [w] at ht
      exact ⟨k - 1, by omega, j + 1, lf, by omega, by rw [ht]; exact hl, by rw [nI_1], rfl, rfl, rfl, rfl⟩
    · rw [bI_0, Bool.not_eq_false] at w
      exact ⟨rfl, trivial, ⟨_, rfl, ⟨j, ⟨q, by rw [hx]; exact w, by omega⟩, rfl⟩, rfl⟩, Nat.le_refl _, Nat.le_refl _⟩
    · rw [bI_0, Bool.not_eq_false] at w
      rw [w, if_pos rfl] at ht
      exact ⟨k - 1, by omega, j + 1, lf - 1, by omega, by omega, by rw [nI_1, nI_dec z], rfl, rfl, rfl, rfl⟩
theorem u_rsa (l : Launch) : Us l yX12_seenAt cX12_seenAt 6 (some .int) 2 47 13 T_rsa := by
  intro Rc Rs av S cs sl K Kx h
  unfold T_rsa at h
  split at h
  · rename_i g_o r_o o_v ix_v
    obtain ⟨g, rfl, h_1⟩ := pa_of h
    obtain ⟨r, rfl, h_2⟩ := pa_of h_1
    obtain ⟨o, rfl, h_3⟩ := h_2
    obtain ⟨ix, rfl, h_4⟩ := h_3
    obtain ⟨F, i, y, G, T, W, hp, hc, hs, hk⟩ := h_4
    refine ⟨(sp_rsa g r o ix F i y G T W), c_rsa l g r o ix F i y G T W, fun _ _ h9 => ⟨_, _, h9.1, (h9.2.1 ▸ (h9.2.2.1 0).1)⟩, ⟨rfl, hp⟩, hc, hs, fun v9 S' h8 => by
      obtain ⟨v8, h7, h8, h6⟩ := h8
      cases h7
      subst h6
      exact hk _ h8, fun _ _ q => q.elim⟩
  · exact h.elim
def I_rsb (g ix : Nat) (p : Nat → Bool) (T : Tr) (S : MM) (k : Nat) : KT := fun lo st S1 cs sl => ∃ j lf, j + k = T.od.length ∧ lf + ((T.od.take j).filter p).length = ix ∧ lo = [(0, .inr (.inr (some g))), (2, .inl (nI lf)), (3, .inl (nI j))] ∧ st = [] ∧ S = S1 ∧ cs = 0 ∧ sl = 0
def T_rsha : TR := fun Rc Rs av S cs sl K _Kx => match av with
  | [.inr (.inr g_o), .inl ix_v] => pa g_o fun g => (∃ (ix : Nat), ix_v = nI ix ∧ (∃ (F : Nat → Nat × Nat) (i : Nat) (y : Nat → Nat) (G : Gr) (T : Tr), (g = y 0 ∧ RG S F i y G T ∧ ix < (T.od.filter (vis G)).length) ∧ cs ≤ Rc ∧ sl ≤ Rs ∧ (∀ (v : Int32), (∃ j, atP T.od (vis G) ix j ∧ v = nI (T.od.getD j 0 - 1)) → K (some (.inl v)) S cs sl)))
  | _ => False
def sp_rsha (g : Nat) (ix : Nat) (F : Nat → Nat × Nat) (i : Nat) (y : Nat → Nat) (G : Gr) (T : Tr) : Sp := (fun av S => av = [.inr (.inr (some g)), .inl (nI ix)] ∧ (g = y 0 ∧ RG S F i y G T ∧ ix < (T.od.filter (vis G)).length), fun _ S => 0, fun _ S => 0, fun _ S rv S' => ∃ v, rv = (some (.inl v)) ∧ (∃ j, atP T.od (vis G) ix j ∧ v = nI (T.od.getD j 0 - 1)) ∧ S' = S, fun _ _ _ _ => False)
def tX12_shownAt : CD := [(0, .iload_n 1), (1, .istore_n 2), (2, .iconst 0), (3, .istore_n 3), (4, .aload_n 0), (5, .aload_n 0), (6, .getfield 72), (9, .iload_n 3), (10, .iaload), (11, .invokevirtual 104), (14, .ifCond .eq 7), (17, .iload_n 2), (18, .ifCond .le 25), (21, .aload_n 0), (22, .aload_n 0), (23, .getfield 72), (26, .iload_n 3), (27, .iaload), (28, .invokevirtual 104), (31, .ifCond .eq 6), (34, .iinc 2 (-1)), (37, .iinc 3 1), (40, .goto (-36)), (43, .aload_n 0), (44, .getfield 72), (47, .iload_n 3), (48, .iaload), (49, .ireturn)]
set_option maxRecDepth 100000 in
theorem kX12_shownAt : chk cX12_shownAt tX12_shownAt = true := by decide +kernel
theorem vX12_shownAt_104 : ∀ w ∈ ([.methodLink RX12 104 yX12_isShown, .instanceMethod yX12_isShown, .selects yX12_isShown.cls yX12_isShown yX12_isShown, .initialized yX12_isShown.cls, .code yX12_isShown cX12_isShown 2 (some .boolean)] : List Cond), w ∈ lw_good := List.forall_mem_cons.mpr ⟨mgd 1954 (by decide +kernel) (by decide +kernel), List.forall_mem_cons.mpr ⟨mgd 1955 (by decide +kernel) (by decide +kernel), List.forall_mem_cons.mpr ⟨mgd 1956 (by decide +kernel) (by decide +kernel), List.forall_mem_cons.mpr ⟨mgd 138 (by decide +kernel) (by decide +kernel), List.forall_mem_cons.mpr ⟨mgd 1957 (by decide +kernel) (by decide +kernel), fun _ h => absurd h List.not_mem_nil⟩⟩⟩⟩⟩
set_option maxRecDepth 100000 in
set_option maxHeartbeats 2000000 in
theorem c_rsha (l : Launch) : ∀ (g : Nat) (ix : Nat) (F : Nat → Nat × Nat) (i : Nat) (y : Nat → Nat) (G : Gr) (T : Tr), Ct l yX12_shownAt cX12_shownAt 4 (some .int) 1 21 (sp_rsha g ix F i y G T) := by
  intro g ix F i y G T
  refine Ct.of (fX12, nX12, aX12, iX12, lX12, [(104, 0, 2, 1, T_rish)], qX12, gX12, []) false tX12_shownAt (fun _ S => look [(4, ([0,2,3], I_rsb g ix (vis G) T S))]) (by decide) (by decide) kX12_shownAt ⟨_, _, rfl⟩ fX12_ok nX12_ok aX12_ok iX12_ok lX12_ok (fun p e R s m args below meth c Q D cy z r A C hR1 hR2 => List.forall_mem_cons.mpr ⟨cOK_use (fun _ _ _ _ _ _ _ _ h => let ⟨sp, h1, h2, h3⟩ := u_rish l _ _ _ _ _ _ _ _ h; ⟨sp, cOK_V C h1 vX12_shownAt_104 ⟨by decide, by decide, by decide +kernel⟩ ⟨by rw [hR1]; decide, by rw [hR2]; decide⟩ (k := 13) (T := TX12) (N := 27) rfl (by decide) h2, h3⟩), fun _ h => absurd h List.not_mem_nil⟩) qX12_ok gX12_ok rfl ?_ ?_
  · rintro _ S ⟨rfl, hp⟩
    refine ⟨Nat.le_of_ble_eq_true rfl, 300, ?_⟩
    show (∃ k1, I_rsb g ix (vis G) T S k1 [(0, .inr (.inr (some g))), (2, .inl (nI ix)), (3, .inl (0 : Int32))] [] S 0 0)
    obtain ⟨rfl, h⟩ := hp
    exact ⟨T.od.length, 0, ix, by omega, rfl, rfl, rfl, rfl, rfl, rfl⟩
  · intro av S hpre pc I hI k lo st S1 cs sl h
    obtain ⟨rfl, hp⟩ := hpre
    have hm := look_in hI
    rw [List.mem_singleton] at hm
    cases hm
    obtain ⟨j, lf, hj, hl, rfl, rfl, rfl, rfl, rfl⟩ := h
    refine ⟨300, ?_⟩
    show (isO S 13 g ∧ (pa (mR S 1321 g) fun a_1 => ∃ v_2 : Int32, (isO S 17 a_1 ∧ inR S a_1 (nI j) ∧ v_2 = eI S a_1 (nI j).toNatClampNeg ∨ a_1 = (mQ S).1 ∧ vp_in (nI j) 16 ∧ v_2 = mRem (nI j).toNatClampNeg) ∧ (0 = 0 ∧ (∃ (k1_3 : Nat), v_2 = nI k1_3 ∧ (∃ (F_4 : Nat → Nat × Nat) (i_5 : Nat) (y_6 : Nat → Nat) (G_7 : Gr) (T_8 : Tr), (g = y_6 0 ∧ RG S F_4 i_5 y_6 G_7 T_8 ∧ k1_3 < G_7.n) ∧ 0 ≤ 0 ∧ 0 ≤ 0 ∧ ((((bI (vis G_7 (k1_3 + 1))) = 0 → (isO S 13 g ∧ (pa (mR S 1321 g) fun a_10 => ∃ v_11 : Int32, (isO S 17 a_10 ∧ inR S a_10 (nI j) ∧ v_11 = eI S a_10 (nI j).toNatClampNeg ∨ a_10 = (mQ S).1 ∧ vp_in (nI j) 16 ∧ v_11 = mRem (nI j).toNatClampNeg) ∧ (0 = 0 ∧ (∃ (k1_12 : Nat), v_11 = nI k1_12 ∧ (∃ (F_13 : Nat → Nat × Nat) (i_14 : Nat) (y_15 : Nat → Nat) (G_16 : Gr) (T_17 : Tr), (g = y_15 0 ∧ RG S F_13 i_14 y_15 G_16 T_17 ∧ k1_12 < G_16.n) ∧ 0 ≤ 0 ∧ 0 ≤ 0 ∧ ((((bI (vis G_16 (k1_12 + 1))) = 0 → (∃ k1, k1 < k ∧ I_rsb g ix (vis G) T S k1 [(0, .inr (.inr (some g))), (2, .inl (nI lf)), (3, .inl ((nI j) + (1 : Int32)))] [] S 0 0)) ∧ (¬ (bI (vis G_16 (k1_12 + 1))) = 0 → (∃ k1, k1 < k ∧ I_rsb g ix (vis G) T S k1 [(0, .inr (.inr (some g))), (2, .inl ((nI lf) + (-1 : Int32))), (3, .inl ((nI j) + (1 : Int32)))] [] S 0 0)))))))))) ∧ (¬ (bI (vis G_7 (k1_3 + 1))) = 0 → (((nI lf) ≤ 0 → (isO S 13 g ∧ (pa (mR S 1321 g) fun a_19 => ∃ v_20 : Int32, (isO S 17 a_19 ∧ inR S a_19 (nI j) ∧ v_20 = eI S a_19 (nI j).toNatClampNeg ∨ a_19 = (mQ S).1 ∧ vp_in (nI j) 16 ∧ v_20 = mRem (nI j).toNatClampNeg) ∧ (([] : List MV) = [] ∧ mret (some .int) (sp_rsha g ix F i y G T) [.inr (.inr (some g)), .inl (nI ix)] S (some (.inl v_20)) S 0 0)))) ∧ (¬ (nI lf) ≤ 0 → (isO S 13 g ∧ (pa (mR S 1321 g) fun a_21 => ∃ v_22 : Int32, (isO S 17 a_21 ∧ inR S a_21 (nI j) ∧ v_22 = eI S a_21 (nI j).toNatClampNeg ∨ a_21 = (mQ S).1 ∧ vp_in (nI j) 16 ∧ v_22 = mRem (nI j).toNatClampNeg) ∧ (0 = 0 ∧ (∃ (k1_23 : Nat), v_22 = nI k1_23 ∧ (∃ (F_24 : Nat → Nat × Nat) (i_25 : Nat) (y_26 : Nat → Nat) (G_27 : Gr) (T_28 : Tr), (g = y_26 0 ∧ RG S F_24 i_25 y_26 G_27 T_28 ∧ k1_23 < G_27.n) ∧ 0 ≤ 0 ∧ 0 ≤ 0 ∧ ((((bI (vis G_27 (k1_23 + 1))) = 0 → (∃ k1, k1 < k ∧ I_rsb g ix (vis G) T S k1 [(0, .inr (.inr (some g))), (2, .inl (nI lf)), (3, .inl ((nI j) + (1 : Int32)))] [] S 0 0)) ∧ (¬ (bI (vis G_27 (k1_23 + 1))) = 0 → (∃ k1, k1 < k ∧ I_rsb g ix (vis G) T S k1 [(0, .inr (.inr (some g))), (2, .inl ((nI lf) + (-1 : Int32))), (3, .inl ((nI j) + (1 : Int32)))] [] S 0 0)))))))))))))))))))
    obtain ⟨rfl, h, hix⟩ := hp
    have hnm := h.nm
    have hol := h.odl
    have fl := fil_le (vis G) T.od
    have q : j < T.od.length := by
      refine Nat.lt_of_not_le (fun z => ?_)
      rw [List.take_of_length_le z] at hl
      omega
    obtain ⟨x, hx, hxn, hxc, hxo⟩ := h.odn q
    have ht := tkf (p := vis G) q
    rw [hx] at ht
    refine ⟨(h 0).1, h.g21 q ⟨rfl, x, by rw [hx]; rfl, F, i, y, G, T, ⟨rfl, h, hxn⟩, Nat.le_refl _, Nat.le_refl _, fun w => ⟨(h 0).1, h.g21 q ⟨rfl, x, by rw [hx]; rfl, F, i, y, G, T, ⟨rfl, h, hxn⟩, Nat.le_refl _, Nat.le_refl _, fun _ => ?_, fun w1 => absurd w w1⟩⟩, fun w => if_le (b := 0) (by omega) (by decide) (fun z => ?_) (fun z => ⟨(h 0).1, h.g21 q ⟨rfl, x, by rw [hx]; rfl, F, i, y, G, T, ⟨rfl, h, hxn⟩, Nat.le_refl _, Nat.le_refl _, fun w1 => absurd w1 w, fun _ => ?_⟩⟩)⟩⟩
    · rw [bI_0] at w
      rw [w] at ht
      exact ⟨k - 1, by omega, j + 1, lf, by omega, by rw [ht]; exact hl, by rw [nI_1], rfl, rfl, rfl, rfl⟩
    · rw [bI_0, Bool.not_eq_false] at w
      exact ⟨(h 0).1, h.g21 q ⟨rfl, trivial, ⟨_, rfl, ⟨j, ⟨q, by rw [hx]; exact w, by omega⟩, rfl⟩, rfl⟩, Nat.le_refl _, Nat.le_refl _⟩⟩
    · rw [bI_0, Bool.not_eq_false] at w
      rw [w, if_pos rfl] at ht
      exact ⟨k - 1, by omega, j + 1, lf - 1, by omega, by omega, by rw [nI_1, nI_dec z], rfl, rfl, rfl, rfl⟩
theorem u_rsha (l : Launch) : Us l yX12_shownAt cX12_shownAt 4 (some .int) 1 21 13 T_rsha := by
  intro Rc Rs av S cs sl K Kx h
  unfold T_rsha at h
  split at h
  · rename_i g_o ix_v
    obtain ⟨g, rfl, h_1⟩ := pa_of h
    obtain ⟨ix, rfl, h_2⟩ := h_1
    obtain ⟨F, i, y, G, T, hp, hc, hs, hk⟩ := h_2
    refine ⟨(sp_rsha g ix F i y G T), c_rsha l g ix F i y G T, fun _ _ h9 => ⟨_, _, h9.1, (h9.2.1 ▸ (h9.2.2.1 0).1)⟩, ⟨rfl, hp⟩, hc, hs, fun v9 S' h8 => by
      obtain ⟨v8, h7, h8, h6⟩ := h8
      cases h7
      subst h6
      exact hk _ h8, fun _ _ q => q.elim⟩
  · exact h.elim
