/-! ===== The reference's graph: tops ===== -/
/-- the last event of slot s in a version -/
def lsE (G : Gr) (W : Nat → Nat) (s : Nat) : Nat := (evL G s).getD (W s - 1) 0
theorem lsE_l {G : Gr} {W : Nat → Nat} (h : G.ok) {s : Nat} (hc : W s ≤ G.cn s) (h0 : 0 < W s) : G.Lst W (lsE G W s) ∧ (G.ev (lsE G W s)).sl = s := by
  have hl : W s - 1 < (evL G s).length := by rw [evL_len]; omega
  have h1 : (evL G s)[W s - 1]? = some (lsE G W s) := by
    rw [lsE, List.getD_eq_getElem?_getD, List.getElem?_eq_getElem hl]; rfl
  obtain ⟨a, b, c⟩ := (evL_at h).1 h1
  exact ⟨⟨a, by rw [b, c]; omega⟩, b⟩
theorem lsE_u {G : Gr} {W : Nat → Nat} (h : G.ok) {k : Nat} (hk : G.Lst W k) : k = lsE G W (G.ev k).sl ∧ 0 < W (G.ev k).sl := by
  have h1 := hk.2
  refine ⟨?_, by omega⟩
  have h2 : (evL G (G.ev k).sl)[W (G.ev k).sl - 1]? = some k := (evL_at h).2 ⟨hk.1, rfl, by omega⟩
  rw [lsE, List.getD_eq_getElem?_getD, h2]; rfl
def tpS (G : Gr) (W : Nat → Nat) (s n : Nat) : Prop := ∀ j, j < n → 0 < W j → G.bef (lsE G W s) (lsE G W j) = false
def tpM (G : Gr) (W : Nat → Nat) (n : Nat) (M : List Nat) : Prop := M.Pairwise (fun p q => G.key p < G.key q) ∧ (∀ k, k ∈ M ↔ ∃ s, s < n ∧ 0 < W s ∧ k = lsE G W s ∧ tpS G W s G.m) ∧ M.length ≤ n
def I_tp1 (g r o d : Nat) (G : Gr) (W : Nat → Nat) (S : MM) (k : Nat) : KT := fun lo st S1 cs sl => ∃ n M f, k = 100 * (G.m - n) ∧ n ≤ G.m ∧ tpM G W n M ∧ S1 = rI S d f ∧ (∀ j, j < M.length → f j = nI (M.getD j 0)) ∧ lo = [(0, .inr (.inr (some g))), (1, .inr (.inr (some r))), (2, .inl (nI o)), (3, .inr (.inr (some d))), (4, .inl (nI M.length)), (5, .inl (nI n))] ∧ st = [] ∧ cs = 0 ∧ sl = 0
def I_tp2 (g r o d : Nat) (G : Gr) (W : Nat → Nat) (S : MM) (k : Nat) : KT := fun lo st S1 cs sl => ∃ n M f j bz, k = 100 * (G.m - n) - 10 - j ∧ n < G.m ∧ j ≤ G.m ∧ 0 < W n ∧ tpM G W n M ∧ (bz = true ↔ tpS G W n j) ∧ S1 = rI S d f ∧ (∀ j, j < M.length → f j = nI (M.getD j 0)) ∧ lo = [(0, .inr (.inr (some g))), (1, .inr (.inr (some r))), (2, .inl (nI o)), (3, .inr (.inr (some d))), (4, .inl (nI M.length)), (5, .inl (nI n)), (6, .inl (nI (lsE G W n))), (7, .inl (bI bz)), (8, .inl (nI j))] ∧ st = [] ∧ cs = 0 ∧ sl = 0
def I_tp3 (g r o d : Nat) (G : Gr) (W : Nat → Nat) (S : MM) (k : Nat) : KT := fun lo st S1 cs sl => ∃ n M f X Y, k = 100 * (G.m - n) - 60 + X.length ∧ n < G.m ∧ 0 < W n ∧ tpM G W n M ∧ tpS G W n G.m ∧ M = X ++ Y ∧ (∀ z, z ∈ Y → G.key (lsE G W n) < G.key z) ∧ S1 = rI S d f ∧ (∀ j, j < X.length → f j = nI (X.getD j 0)) ∧ (∀ j, j < Y.length → f (X.length + 1 + j) = nI (Y.getD j 0)) ∧ lo = [(0, .inr (.inr (some g))), (1, .inr (.inr (some r))), (2, .inl (nI o)), (3, .inr (.inr (some d))), (4, .inl (nI M.length)), (5, .inl (nI n)), (6, .inl (nI (lsE G W n))), (8, .inl (nI X.length))] ∧ st = [] ∧ cs = 0 ∧ sl = 0
def tpQ (S S' : MM) (d : Nat) (L : List Nat) : Prop := ∃ f, S' = rI S d f ∧ ∀ j, j < L.length → f j = nI (L.getD j 0)
theorem rI_own {S : MM} {a : Nat} : rI S a (eI S a) = S := by
  unfold rI
  have e : va_up (eI S) a (eI S a) = eI S := by
    funext b
    show (if b = a then eI S a else eI S b) = eI S b
    by_cases c : b = a
    · rw [if_pos c, c]
    · rw [if_neg c]
  rw [e]
  rfl
theorem lsI_p {G : Gr} {W : Nat → Nat} {s : Nat} (h1 : s < G.m) (h2 : 0 < W s) : lsI G W s = nI (lsE G W s) := if_pos ⟨h1, h2⟩
theorem lsI_n {G : Gr} {W : Nat → Nat} {s : Nat} (h2 : ¬ 0 < W s) : lsI G W s = -1 := if_neg (fun z => h2 z.2)
theorem tpM.sk {G : Gr} {W : Nat → Nat} {n : Nat} {M : List Nat} (h : tpM G W n M) (hn : ¬ (0 < W n ∧ tpS G W n G.m)) : tpM G W (n + 1) M := by
  refine ⟨h.1, fun k => (h.2.1 k).trans ⟨fun ⟨s, a, b⟩ => ⟨s, by omega, b⟩, fun ⟨s, a, b⟩ => ⟨s, ?_, b⟩⟩, by have := h.2.2; omega⟩
  have : s ≠ n := fun z => hn (z ▸ ⟨b.1, b.2.2⟩)
  omega
theorem tpM.top {G : Gr} {W : Nat → Nat} {M : List Nat} (hG : G.ok) (hW : ∀ s, W s ≤ G.cn s) (h : tpM G W G.m M) (k : Nat) : k ∈ M ↔ G.Top W k := by
  rw [Gr.top_iff hG hW, h.2.1]
  constructor
  · rintro ⟨s, a, b, rfl, d⟩
    refine ⟨(lsE_l hG (hW s) b).1, fun j hj => ?_⟩
    obtain ⟨e1, e2⟩ := lsE_u hG hj
    rw [e1]
    exact d _ (hG.sl1 j hj.1) e2
  · rintro ⟨a, b⟩
    obtain ⟨e1, e2⟩ := lsE_u hG a
    refine ⟨(G.ev k).sl, hG.sl1 k a.1, e2, e1, fun j hj h0 => ?_⟩
    rw [← e1]
    exact b _ (lsE_l hG (hW j) h0).1
theorem tpM.lt {G : Gr} {W : Nat → Nat} {n : Nat} {M : List Nat} (hG : G.ok) (hW : ∀ s, W s ≤ G.cn s) (h : tpM G W n M) {k : Nat} (hk : k ∈ M) : k < G.n ∧ (G.ev k).sl < n := by
  obtain ⟨s, a, b, rfl, -⟩ := (h.2.1 k).1 hk
  have := lsE_l hG (hW s) b
  exact ⟨this.1.1, by rw [this.2]; exact a⟩
theorem tpM.ad {G : Gr} {W : Nat → Nat} {n : Nat} {X Y : List Nat} (hG : G.ok) (h : tpM G W n (X ++ Y)) (h0 : 0 < W n) (hb : tpS G W n G.m) (hX : ∀ x, x ∈ X → G.key x < G.key (lsE G W n)) (hY : ∀ z, z ∈ Y → G.key (lsE G W n) < G.key z) : tpM G W (n + 1) (X ++ lsE G W n :: Y) := by
  obtain ⟨h1, h2, h3⟩ := h
  rw [List.pairwise_append] at h1
  refine ⟨List.pairwise_append.2 ⟨h1.1, List.pairwise_cons.2 ⟨hY, h1.2.1⟩, fun a ha b hb => ?_⟩, fun k => ?_, ?_⟩
  · rcases List.mem_cons.1 hb with z | z
    · rw [z]; exact hX a ha
    · exact h1.2.2 a ha b z
  · have e1 : k ∈ X ++ lsE G W n :: Y ↔ k = lsE G W n ∨ k ∈ X ++ Y := by
      simp only [List.mem_append, List.mem_cons]
      constructor
      · rintro (z | z | z)
        · exact Or.inr (Or.inl z)
        · exact Or.inl z
        · exact Or.inr (Or.inr z)
      · rintro (z | z | z)
        · exact Or.inr (Or.inl z)
        · exact Or.inl z
        · exact Or.inr (Or.inr z)
    rw [e1, h2]
    constructor
    · rintro (z | ⟨s, a, b⟩)
      · exact ⟨n, Nat.lt_succ_self n, h0, z, hb⟩
      · exact ⟨s, by omega, b⟩
    · rintro ⟨s, a, b⟩
      by_cases c : s = n
      · subst c; exact Or.inl b.2.1
      · exact Or.inr ⟨s, by omega, b⟩
  · rw [List.length_append] at h3
    rw [List.length_append, List.length_cons]; omega
theorem ins_row {f : Nat → Int32} {X Y : List Nat} {e : Nat} (h1 : ∀ j, j < X.length → f j = nI (X.getD j 0)) (h2 : ∀ j, j < Y.length → f (X.length + 1 + j) = nI (Y.getD j 0)) : ∀ j, j < (X ++ e :: Y).length → upd f X.length (nI e) j = nI ((X ++ e :: Y).getD j 0) := by
  intro j hj
  rw [upd]
  by_cases c : j = X.length
  · rw [if_pos c, c, (at_app X Y e).2]
  · rw [if_neg c]
    by_cases c2 : j < X.length
    · rw [getD_app_l c2]; exact h1 j c2
    · obtain ⟨t, rfl⟩ : ∃ t, j = X.length + (t + 1) := ⟨j - X.length - 1, by omega⟩
      rw [List.length_append, List.length_cons] at hj
      rw [getD_app_r]
      show f (X.length + (t + 1)) = nI (Y.getD t 0)
      rw [← h2 t (by omega)]
      congr 1; omega
def T_rtp : TR := fun Rc Rs av S cs sl K _Kx => match av with
  | [.inr (.inr g_o), .inr (.inr r_o), .inl o_v, .inr (.inr d_o)] => pa g_o fun g => (pa r_o fun r => (pa d_o fun d => (∃ (o : Nat), o_v = nI o ∧ (∃ (F : Nat → Nat × Nat) (i : Nat) (y : Nat → Nat) (G : Gr) (T : Tr) (W : Nat → Nat) (L : List Nat), (g = y 0 ∧ RG S F i y G T ∧ StR S r o W ∧ (∀ s, W s ≤ G.cn s) ∧ isO S 17 d ∧ mN S d = 16 ∧ (F d).1 ≠ i ∧ L.Pairwise (fun p q => G.key p < G.key q) ∧ (∀ k, k ∈ L ↔ G.Top W k)) ∧ cs ≤ Rc ∧ sl ≤ Rs ∧ (∀ (S' : MM), (tpQ S S' d L) → K (some (.inl (nI L.length))) S' cs sl)))))
  | _ => False
def sp_rtp (g : Nat) (r : Nat) (o : Nat) (d : Nat) (F : Nat → Nat × Nat) (i : Nat) (y : Nat → Nat) (G : Gr) (T : Tr) (W : Nat → Nat) (L : List Nat) : Sp := (fun av S => av = [.inr (.inr (some g)), .inr (.inr (some r)), .inl (nI o), .inr (.inr (some d))] ∧ (g = y 0 ∧ RG S F i y G T ∧ StR S r o W ∧ (∀ s, W s ≤ G.cn s) ∧ isO S 17 d ∧ mN S d = 16 ∧ (F d).1 ≠ i ∧ L.Pairwise (fun p q => G.key p < G.key q) ∧ (∀ k, k ∈ L ↔ G.Top W k)), fun _ S => 0, fun _ S => 0, fun _ S rv S' => rv = (some (.inl (nI L.length))) ∧ (tpQ S S' d L), fun _ _ _ _ => False)
def tX12_tops : CD := [(0, .iconst 0), (1, .istore 4), (3, .iconst 0), (4, .istore 5), (6, .iload 5), (8, .aload_n 0), (9, .getfield 87), (12, .if_icmp .ge 143), (15, .aload_n 0), (16, .aload_n 1), (17, .iload_n 2), (18, .iload 5), (20, .invokevirtual 145), (23, .istore 6), (25, .iload 6), (27, .ifCond .ge 6), (30, .goto 119), (33, .iconst 1), (34, .istore 7), (36, .iconst 0), (37, .istore 8), (39, .iload 8), (41, .aload_n 0), (42, .getfield 87), (45, .if_icmp .ge 47), (48, .aload_n 0), (49, .aload_n 1), (50, .iload_n 2), (51, .iload 8), (53, .invokevirtual 145), (56, .ifCond .lt 30), (59, .iload 7), (61, .aload_n 0), (62, .iload 6), (64, .aload_n 0), (65, .aload_n 1), (66, .iload_n 2), (67, .iload 8), (69, .invokevirtual 145), (72, .invokevirtual 148), (75, .ifCond .ne 7), (78, .iconst 1), (79, .goto 4), (82, .iconst 0), (83, .iand), (84, .istore 7), (86, .iinc 8 1), (89, .goto (-50)), (92, .iload 7), (94, .ifCond .ne 6), (97, .goto 52), (100, .iload 4), (102, .istore 8), (104, .iload 8), (106, .ifCond .le 34), (109, .aload_n 0), (110, .iload 6), (112, .aload_n 3), (113, .iload 8), (115, .iconst 1), (116, .isub), (117, .iaload), (118, .invokevirtual 132), (121, .ifCond .eq 19), (124, .aload_n 3), (125, .iload 8), (127, .aload_n 3), (128, .iload 8), (130, .iconst 1), (131, .isub), (132, .iaload), (133, .iastore), (134, .iinc 8 (-1)), (137, .goto (-33)), (140, .aload_n 3), (141, .iload 8), (143, .iload 6), (145, .iastore), (146, .iinc 4 1), (149, .iinc 5 1), (152, .goto (-146)), (155, .iload 4), (157, .ireturn)]
set_option maxRecDepth 100000 in
theorem kX12_tops : chk cX12_tops tX12_tops = true := by decide +kernel
theorem vX12_tops_145 : ∀ w ∈ ([.methodLink RX12 145 yX12_lastIn, .instanceMethod yX12_lastIn, .selects yX12_lastIn.cls yX12_lastIn yX12_lastIn, .initialized yX12_lastIn.cls, .code yX12_lastIn cX12_lastIn 4 (some .int)] : List Cond), w ∈ lw_good := List.forall_mem_cons.mpr ⟨mgd 2146 (by decide +kernel) (by decide +kernel), List.forall_mem_cons.mpr ⟨mgd 2148 (by decide +kernel) (by decide +kernel), List.forall_mem_cons.mpr ⟨mgd 73 (by decide +kernel) (by decide +kernel), List.forall_mem_cons.mpr ⟨mgd 138 (by decide +kernel) (by decide +kernel), List.forall_mem_cons.mpr ⟨mgd 2149 (by decide +kernel) (by decide +kernel), fun _ h => absurd h List.not_mem_nil⟩⟩⟩⟩⟩
theorem vX12_tops_148 : ∀ w ∈ ([.methodLink RX12 148 yX12_isBefore, .instanceMethod yX12_isBefore, .selects yX12_isBefore.cls yX12_isBefore yX12_isBefore, .initialized yX12_isBefore.cls, .code yX12_isBefore cX12_isBefore 3 (some .boolean)] : List Cond), w ∈ lw_good := List.forall_mem_cons.mpr ⟨mgd 2150 (by decide +kernel) (by decide +kernel), List.forall_mem_cons.mpr ⟨mgd 2151 (by decide +kernel) (by decide +kernel), List.forall_mem_cons.mpr ⟨mgd 2152 (by decide +kernel) (by decide +kernel), List.forall_mem_cons.mpr ⟨mgd 138 (by decide +kernel) (by decide +kernel), List.forall_mem_cons.mpr ⟨mgd 2153 (by decide +kernel) (by decide +kernel), fun _ h => absurd h List.not_mem_nil⟩⟩⟩⟩⟩
theorem vX12_tops_132 : ∀ w ∈ ([.methodLink RX12 132 yX12_isLess, .instanceMethod yX12_isLess, .selects yX12_isLess.cls yX12_isLess yX12_isLess, .initialized yX12_isLess.cls, .code yX12_isLess cX12_isLess 3 (some .boolean)] : List Cond), w ∈ lw_good := List.forall_mem_cons.mpr ⟨mgd 2021 (by decide +kernel) (by decide +kernel), List.forall_mem_cons.mpr ⟨mgd 2022 (by decide +kernel) (by decide +kernel), List.forall_mem_cons.mpr ⟨mgd 2023 (by decide +kernel) (by decide +kernel), List.forall_mem_cons.mpr ⟨mgd 138 (by decide +kernel) (by decide +kernel), List.forall_mem_cons.mpr ⟨mgd 2024 (by decide +kernel) (by decide +kernel), fun _ h => absurd h List.not_mem_nil⟩⟩⟩⟩⟩
set_option maxRecDepth 100000 in
set_option maxHeartbeats 2000000 in
theorem c_rtp (l : Launch) : ∀ (g : Nat) (r : Nat) (o : Nat) (d : Nat) (F : Nat → Nat × Nat) (i : Nat) (y : Nat → Nat) (G : Gr) (T : Tr) (W : Nat → Nat) (L : List Nat), Ct l yX12_tops cX12_tops 9 (some .int) 1 23 (sp_rtp g r o d F i y G T W L) := by
  intro g r o d F i y G T W L
  refine Ct.of (fX12, nX12, aX12, iX12, lX12, [(145, 0, 4, 1, T_rli), (148, 0, 3, 1, T_rib), (132, 0, 3, 1, T_rlss)], qX12, gX12, []) false tX12_tops (fun _ S => look [(6, ([0,1,2,3,4,5], I_tp1 g r o d G W S)), (39, ([0,1,2,3,4,5,6,7,8], I_tp2 g r o d G W S)), (104, ([0,1,2,3,4,5,6,8], I_tp3 g r o d G W S))]) (by decide) (by decide) kX12_tops ⟨_, _, rfl⟩ fX12_ok nX12_ok aX12_ok iX12_ok lX12_ok (fun p e R s m args below meth c Q D cy z r A C hR1 hR2 => List.forall_mem_cons.mpr ⟨cOK_use (fun _ _ _ _ _ _ _ _ h => let ⟨sp, h1, h2, h3⟩ := u_rli l _ _ _ _ _ _ _ _ h; ⟨sp, cOK_V C h1 vX12_tops_145 ⟨by decide, by decide, by decide +kernel⟩ ⟨by rw [hR1]; decide, by rw [hR2]; decide⟩ (k := 13) (T := TX12) (N := 27) rfl (by decide) h2, h3⟩), List.forall_mem_cons.mpr ⟨cOK_use (fun _ _ _ _ _ _ _ _ h => let ⟨sp, h1, h2, h3⟩ := u_rib l _ _ _ _ _ _ _ _ h; ⟨sp, cOK_V C h1 vX12_tops_148 ⟨by decide, by decide, by decide +kernel⟩ ⟨by rw [hR1]; decide, by rw [hR2]; decide⟩ (k := 13) (T := TX12) (N := 27) rfl (by decide) h2, h3⟩), List.forall_mem_cons.mpr ⟨cOK_use (fun _ _ _ _ _ _ _ _ h => let ⟨sp, h1, h2, h3⟩ := u_rlss l _ _ _ _ _ _ _ _ h; ⟨sp, cOK_V C h1 vX12_tops_132 ⟨by decide, by decide, by decide +kernel⟩ ⟨by rw [hR1]; decide, by rw [hR2]; decide⟩ (k := 13) (T := TX12) (N := 27) rfl (by decide) h2, h3⟩), fun _ h => absurd h List.not_mem_nil⟩⟩⟩) qX12_ok gX12_ok rfl ?_ ?_
  · rintro _ S ⟨rfl, hp⟩
    refine ⟨Nat.le_of_ble_eq_true rfl, 300, ?_⟩
    show (∃ k1, I_tp1 g r o d G W S k1 [(0, .inr (.inr (some g))), (1, .inr (.inr (some r))), (2, .inl (nI o)), (3, .inr (.inr (some d))), (4, .inl (0 : Int32)), (5, .inl (0 : Int32))] [] S 0 0)
    obtain ⟨rfl, h, hst, hW, hd, hdn, hdi, hL1, hL2⟩ := hp
    exact ⟨100 * (G.m - 0), 0, [], eI S d, rfl, Nat.zero_le _, ⟨List.Pairwise.nil, fun k => ⟨fun z => (by cases z), fun ⟨s, z, _⟩ => absurd z (Nat.not_lt_zero s)⟩, Nat.le_refl _⟩, rI_own.symm, fun j hj => absurd hj (Nat.not_lt_zero j), rfl, rfl, rfl, rfl⟩
  · intro av S hpre pc I hI k lo st S1 cs sl h
    obtain ⟨rfl, hp⟩ := hpre
    have hm := look_in hI
    simp only [List.mem_cons, List.not_mem_nil, or_false] at hm
    rcases hm with hm | hm | hm
    · cases hm
      obtain ⟨n, M, f, rfl, hn, hM, rfl, hf, rfl, rfl, rfl, rfl⟩ := h
      refine ⟨300, ?_⟩
      show (isO (rI S d f) 13 g ∧ (((mI (rI S d f) 1301 g) ≤ (nI n) → (([] : List MV) = [] ∧ mret (some .int) (sp_rtp g r o d F i y G T W L) [.inr (.inr (some g)), .inr (.inr (some r)), .inl (nI o), .inr (.inr (some d))] S (some (.inl (nI M.length))) (rI S d f) 0 0)) ∧ (¬ (mI (rI S d f) 1301 g) ≤ (nI n) → (0 = 0 ∧ (∃ (o_1 : Nat), nI o = nI o_1 ∧ (∃ (sv_2 : Nat), nI n = nI sv_2 ∧ (∃ (F_3 : Nat → Nat × Nat) (i_4 : Nat) (y_5 : Nat → Nat) (G_6 : Gr) (T_7 : Tr) (W_8 : Nat → Nat), (g = y_5 0 ∧ RG (rI S d f) F_3 i_4 y_5 G_6 T_7 ∧ StR (rI S d f) r o_1 W_8 ∧ sv_2 < 16 ∧ (∀ s, s < G_6.m → W_8 s ≤ G_6.cn s)) ∧ 0 ≤ 0 ∧ 0 ≤ 0 ∧ (((0 ≤ (lsI G_6 W_8 sv_2) → (∃ k1, k1 < (100 * (G.m - n)) ∧ I_tp2 g r o d G W S k1 [(0, .inr (.inr (some g))), (1, .inr (.inr (some r))), (2, .inl (nI o)), (3, .inr (.inr (some d))), (4, .inl (nI M.length)), (5, .inl (nI n)), (6, .inl (lsI G_6 W_8 sv_2)), (7, .inl (1 : Int32)), (8, .inl (0 : Int32))] [] (rI S d f) 0 0)) ∧ (¬ 0 ≤ (lsI G_6 W_8 sv_2) → (∃ k1, k1 < (100 * (G.m - n)) ∧ I_tp1 g r o d G W S k1 [(0, .inr (.inr (some g))), (1, .inr (.inr (some r))), (2, .inl (nI o)), (3, .inr (.inr (some d))), (4, .inl (nI M.length)), (5, .inl ((nI n) + (1 : Int32)))] [] (rI S d f) 0 0)))))))))))
      obtain ⟨rfl, h, hst, hW, hd, hdn, hdi, hL1, hL2⟩ := hp
      have hnm := h.nm
      have hMl := hM.2.2
      have hnd : r ≠ d := fun z => by
        have a1 := hst.1.2
        rw [z, hd.2] at a1
        exact absurd a1 (by decide)
      have hG : RG (rI S d f) F i y G T := h.keep (P := fun c => c = d) (Keep.rI Keep.rf rfl) (fun b hb z => hdi (z ▸ hb))
      have hS : StR (rI S d f) r o W := ⟨hst.1, hst.2.1, hst.2.2.1, fun s hs => by rw [eI_rI, if_neg hnd]; exact hst.2.2.2 s hs⟩
      have m1 : mI (rI S d f) 1301 (y 0) = nI G.m := (h 2).2.1
      rw [m1]
      refine ⟨(h 0).1, if_le (by omega) (by omega) (fun w => ?_) (fun w => ?_)⟩
      · have hnm : n = G.m := by omega
        subst hnm
        have hML : M = L := srt_uniq hM.1 hL1 (fun k => (hM.top h.ok hW k).trans (hL2 k).symm)
        subst hML
        exact ⟨rfl, trivial, ⟨rfl, f, rfl, hf⟩, Nat.le_refl _, Nat.le_refl _⟩
      · refine ⟨rfl, o, rfl, n, rfl, F, i, y, G, T, W, ⟨rfl, hG, hS, by omega, fun s _ => hW s⟩, Nat.le_refl _, Nat.le_refl _, ?_⟩
        by_cases c : 0 < W n
        · have hl := (lsE_l h.ok (hW n) c).1.1
          rw [lsI_p w c]
          exact ⟨fun _ => ⟨100 * (G.m - n) - 10 - 0, by omega, n, M, f, 0, true, rfl, w, Nat.zero_le _, c, hM, ⟨fun _ j hj => absurd hj (Nat.not_lt_zero j), fun _ => rfl⟩, rfl, hf, rfl, rfl, rfl, rfl⟩, fun w => absurd (nI_pos' (show lsE G W n < 2147483648 by omega)) w⟩
        · rw [lsI_n c]
          exact ⟨fun w => absurd w (by decide), fun _ => ⟨100 * (G.m - (n + 1)), by omega, n + 1, M, f, rfl, w, hM.sk (fun z => c z.1), rfl, hf, by rw [nI_1], rfl, rfl, rfl⟩⟩
    · cases hm
      obtain ⟨n, M, f, j, bz, rfl, hn, hj, h0, hM, hb, rfl, hf, rfl, rfl, rfl, rfl⟩ := h
      refine ⟨300, ?_⟩
      show (isO (rI S d f) 13 g ∧ (((mI (rI S d f) 1301 g) ≤ (nI j) → ((¬ (bI bz) = 0 → (∃ k1, k1 < (100 * (G.m - n) - 10 - j) ∧ I_tp3 g r o d G W S k1 [(0, .inr (.inr (some g))), (1, .inr (.inr (some r))), (2, .inl (nI o)), (3, .inr (.inr (some d))), (4, .inl (nI M.length)), (5, .inl (nI n)), (6, .inl (nI (lsE G W n))), (8, .inl (nI M.length))] [] (rI S d f) 0 0)) ∧ ((bI bz) = 0 → (∃ k1, k1 < (100 * (G.m - n) - 10 - j) ∧ I_tp1 g r o d G W S k1 [(0, .inr (.inr (some g))), (1, .inr (.inr (some r))), (2, .inl (nI o)), (3, .inr (.inr (some d))), (4, .inl (nI M.length)), (5, .inl ((nI n) + (1 : Int32)))] [] (rI S d f) 0 0)))) ∧ (¬ (mI (rI S d f) 1301 g) ≤ (nI j) → (0 = 0 ∧ (∃ (o_1 : Nat), nI o = nI o_1 ∧ (∃ (sv_2 : Nat), nI j = nI sv_2 ∧ (∃ (F_3 : Nat → Nat × Nat) (i_4 : Nat) (y_5 : Nat → Nat) (G_6 : Gr) (T_7 : Tr) (W_8 : Nat → Nat), (g = y_5 0 ∧ RG (rI S d f) F_3 i_4 y_5 G_6 T_7 ∧ StR (rI S d f) r o_1 W_8 ∧ sv_2 < 16 ∧ (∀ s, s < G_6.m → W_8 s ≤ G_6.cn s)) ∧ 0 ≤ 0 ∧ 0 ≤ 0 ∧ ((((lsI G_6 W_8 sv_2) < 0 → (∃ k1, k1 < (100 * (G.m - n) - 10 - j) ∧ I_tp2 g r o d G W S k1 [(0, .inr (.inr (some g))), (1, .inr (.inr (some r))), (2, .inl (nI o)), (3, .inr (.inr (some d))), (4, .inl (nI M.length)), (5, .inl (nI n)), (6, .inl (nI (lsE G W n))), (7, .inl (bI bz)), (8, .inl ((nI j) + (1 : Int32)))] [] (rI S d f) 0 0)) ∧ (¬ (lsI G_6 W_8 sv_2) < 0 → (0 = 0 ∧ (∃ (o_10 : Nat), nI o = nI o_10 ∧ (∃ (sv_11 : Nat), nI j = nI sv_11 ∧ (∃ (F_12 : Nat → Nat × Nat) (i_13 : Nat) (y_14 : Nat → Nat) (G_15 : Gr) (T_16 : Tr) (W_17 : Nat → Nat), (g = y_14 0 ∧ RG (rI S d f) F_12 i_13 y_14 G_15 T_16 ∧ StR (rI S d f) r o_10 W_17 ∧ sv_11 < 16 ∧ (∀ s, s < G_15.m → W_17 s ≤ G_15.cn s)) ∧ 0 ≤ 0 ∧ 0 ≤ 0 ∧ ((0 = 0 ∧ (∃ (e_19 : Nat), nI (lsE G W n) = nI e_19 ∧ (∃ (f_20 : Nat), lsI G_15 W_17 sv_11 = nI f_20 ∧ (∃ (F_21 : Nat → Nat × Nat) (i_22 : Nat) (y_23 : Nat → Nat) (G_24 : Gr) (T_25 : Tr), (g = y_23 0 ∧ RG (rI S d f) F_21 i_22 y_23 G_24 T_25 ∧ e_19 < G_24.n ∧ f_20 < G_24.n) ∧ 0 ≤ 0 ∧ 0 ≤ 0 ∧ (((¬ (bI (G_24.bef e_19 f_20)) = 0 → (∃ k1, k1 < (100 * (G.m - n) - 10 - j) ∧ I_tp2 g r o d G W S k1 [(0, .inr (.inr (some g))), (1, .inr (.inr (some r))), (2, .inl (nI o)), (3, .inr (.inr (some d))), (4, .inl (nI M.length)), (5, .inl (nI n)), (6, .inl (nI (lsE G W n))), (7, .inl ((bI bz) &&& (0 : Int32))), (8, .inl ((nI j) + (1 : Int32)))] [] (rI S d f) 0 0)) ∧ ((bI (G_24.bef e_19 f_20)) = 0 → (∃ k1, k1 < (100 * (G.m - n) - 10 - j) ∧ I_tp2 g r o d G W S k1 [(0, .inr (.inr (some g))), (1, .inr (.inr (some r))), (2, .inl (nI o)), (3, .inr (.inr (some d))), (4, .inl (nI M.length)), (5, .inl (nI n)), (6, .inl (nI (lsE G W n))), (7, .inl ((bI bz) &&& (1 : Int32))), (8, .inl ((nI j) + (1 : Int32)))] [] (rI S d f) 0 0)))))))))))))))))))))))
      obtain ⟨rfl, h, hst, hW, hd, hdn, hdi, hL1, hL2⟩ := hp
      have hnm := h.nm
      have hMl := hM.2.2
      have hnd : r ≠ d := fun z => by
        have a1 := hst.1.2
        rw [z, hd.2] at a1
        exact absurd a1 (by decide)
      have hG : RG (rI S d f) F i y G T := h.keep (P := fun c => c = d) (Keep.rI Keep.rf rfl) (fun b hb z => hdi (z ▸ hb))
      have hS : StR (rI S d f) r o W := ⟨hst.1, hst.2.1, hst.2.2.1, fun s hs => by rw [eI_rI, if_neg hnd]; exact hst.2.2.2 s hs⟩
      have m1 : mI (rI S d f) 1301 (y 0) = nI G.m := (h 2).2.1
      have hl := (lsE_l h.ok (hW n) h0).1.1
      rw [m1]
      refine ⟨(h 0).1, if_le (by omega) (by omega) (fun w => ⟨fun z => ?_, fun z => ?_⟩) (fun w => ?_)⟩
      · have hjm : j = G.m := by omega
        subst hjm
        rw [bI_0, Bool.not_eq_false] at z
        exact ⟨100 * (G.m - n) - 60 + M.length, by omega, n, M, f, M, [], rfl, hn, h0, hM, hb.1 z, (List.append_nil M).symm, (fun z hz => by cases hz), rfl, hf, fun j hj => absurd hj (Nat.not_lt_zero j), rfl, rfl, rfl, rfl⟩
      · have hjm : j = G.m := by omega
        subst hjm
        rw [bI_0] at z
        exact ⟨100 * (G.m - (n + 1)), by omega, n + 1, M, f, rfl, hn, hM.sk (fun q => by rw [hb.2 q.2] at z; cases z), rfl, hf, by rw [nI_1], rfl, rfl, rfl⟩
      · refine ⟨rfl, o, rfl, j, rfl, F, i, y, G, T, W, ⟨rfl, hG, hS, by omega, fun s _ => hW s⟩, Nat.le_refl _, Nat.le_refl _, ?_⟩
        by_cases c : 0 < W j
        · have hlj := (lsE_l h.ok (hW j) c).1.1
          have st : ∀ b : Bool, (G.bef (lsE G W n) (lsE G W j) = !b) → ((bz && b) = true ↔ tpS G W n (j + 1)) := fun b eb => by
            rw [Bool.and_eq_true, hb]
            constructor
            · rintro ⟨a1, rfl⟩ t ht h9
              by_cases c : t = j
              · subst c; exact eb
              · exact a1 t (by omega) h9
            · intro a1
              refine ⟨fun t ht => a1 t (by omega), ?_⟩
              have := a1 j (Nat.lt_succ_self j) c
              rw [this] at eb
              cases b
              · cases eb
              · rfl
          rw [lsI_p w c]
          refine ⟨fun w => absurd w (nI_pos (show lsE G W j < 2147483648 by omega)), fun _ => ⟨rfl, o, rfl, j, rfl, F, i, y, G, T, W, ⟨rfl, hG, hS, by omega, fun s _ => hW s⟩, Nat.le_refl _, Nat.le_refl _, rfl, lsE G W n, rfl, lsE G W j, lsI_p w c, F, i, y, G, T, ⟨rfl, hG, hl, hlj⟩, Nat.le_refl _, Nat.le_refl _, fun z => ?_, fun z => ?_⟩⟩
          · rw [bI_0, Bool.not_eq_false] at z
            refine ⟨100 * (G.m - n) - 10 - (j + 1), by omega, n, M, f, j + 1, (bz && false), rfl, hn, w, h0, hM, st false z, rfl, hf, ?_, rfl, rfl, rfl⟩
            rw [nI_1]
            cases bz <;> rfl
          · rw [bI_0] at z
            refine ⟨100 * (G.m - n) - 10 - (j + 1), by omega, n, M, f, j + 1, (bz && true), rfl, hn, w, h0, hM, st true z, rfl, hf, ?_, rfl, rfl, rfl⟩
            rw [nI_1]
            cases bz <;> rfl
        · rw [lsI_n c]
          refine ⟨fun _ => ⟨100 * (G.m - n) - 10 - (j + 1), by omega, n, M, f, j + 1, bz, rfl, hn, w, h0, hM, hb.trans ⟨fun a t ht h9 => ?_, fun a t ht => a t (by omega)⟩, rfl, hf, by rw [nI_1], rfl, rfl, rfl⟩, fun w => absurd (by decide : (-1 : Int32) < 0) w⟩
          by_cases c2 : t = j
          · subst c2; exact absurd h9 c
          · exact a t (by omega) h9
    · cases hm
      obtain ⟨n, M, f, X, Y, rfl, hn, h0, hM, hb, hXY, hY, rfl, hf1, hf2, rfl, rfl, rfl, rfl⟩ := h
      refine ⟨300, ?_⟩
      show (((nI X.length) ≤ 0 → (isO (rI S d f) 17 d ∧ inR (rI S d f) d (nI X.length) ∧ (∃ k1, k1 < (100 * (G.m - n) - 60 + X.length) ∧ I_tp1 g r o d G W S k1 [(0, .inr (.inr (some g))), (1, .inr (.inr (some r))), (2, .inl (nI o)), (3, .inr (.inr (some d))), (4, .inl ((nI M.length) + (1 : Int32))), (5, .inl ((nI n) + (1 : Int32)))] [] (rI (rI S d f) d (upd (eI (rI S d f) d) (nI X.length).toNatClampNeg (nI (lsE G W n)))) 0 0))) ∧ (¬ (nI X.length) ≤ 0 → (∃ v_1 : Int32, (isO (rI S d f) 17 d ∧ inR (rI S d f) d ((nI X.length) - (1 : Int32)) ∧ v_1 = eI (rI S d f) d ((nI X.length) - (1 : Int32)).toNatClampNeg ∨ d = (mQ (rI S d f)).1 ∧ vp_in ((nI X.length) - (1 : Int32)) 16 ∧ v_1 = mRem ((nI X.length) - (1 : Int32)).toNatClampNeg) ∧ (0 = 0 ∧ (∃ (e_2 : Nat), nI (lsE G W n) = nI e_2 ∧ (∃ (f_3 : Nat), v_1 = nI f_3 ∧ (∃ (F_4 : Nat → Nat × Nat) (i_5 : Nat) (y_6 : Nat → Nat) (G_7 : Gr) (T_8 : Tr), (g = y_6 0 ∧ RG (rI S d f) F_4 i_5 y_6 G_7 T_8 ∧ e_2 < G_7.n ∧ f_3 < G_7.n) ∧ 0 ≤ 0 ∧ 0 ≤ 0 ∧ ((((bI (decide (G_7.key e_2 < G_7.key f_3))) = 0 → (isO (rI S d f) 17 d ∧ inR (rI S d f) d (nI X.length) ∧ (∃ k1, k1 < (100 * (G.m - n) - 60 + X.length) ∧ I_tp1 g r o d G W S k1 [(0, .inr (.inr (some g))), (1, .inr (.inr (some r))), (2, .inl (nI o)), (3, .inr (.inr (some d))), (4, .inl ((nI M.length) + (1 : Int32))), (5, .inl ((nI n) + (1 : Int32)))] [] (rI (rI S d f) d (upd (eI (rI S d f) d) (nI X.length).toNatClampNeg (nI (lsE G W n)))) 0 0))) ∧ (¬ (bI (decide (G_7.key e_2 < G_7.key f_3))) = 0 → (∃ v_10 : Int32, (isO (rI S d f) 17 d ∧ inR (rI S d f) d ((nI X.length) - (1 : Int32)) ∧ v_10 = eI (rI S d f) d ((nI X.length) - (1 : Int32)).toNatClampNeg ∨ d = (mQ (rI S d f)).1 ∧ vp_in ((nI X.length) - (1 : Int32)) 16 ∧ v_10 = mRem ((nI X.length) - (1 : Int32)).toNatClampNeg) ∧ (isO (rI S d f) 17 d ∧ inR (rI S d f) d (nI X.length) ∧ (∃ k1, k1 < (100 * (G.m - n) - 60 + X.length) ∧ I_tp3 g r o d G W S k1 [(0, .inr (.inr (some g))), (1, .inr (.inr (some r))), (2, .inl (nI o)), (3, .inr (.inr (some d))), (4, .inl (nI M.length)), (5, .inl (nI n)), (6, .inl (nI (lsE G W n))), (8, .inl ((nI X.length) + (-1 : Int32)))] [] (rI (rI S d f) d (upd (eI (rI S d f) d) (nI X.length).toNatClampNeg v_10)) 0 0)))))))))))))
      obtain ⟨rfl, h, hst, hW, hd, hdn, hdi, hL1, hL2⟩ := hp
      have hnm := h.nm
      have hMl := hM.2.2
      have hnd : r ≠ d := fun z => by
        have a1 := hst.1.2
        rw [z, hd.2] at a1
        exact absurd a1 (by decide)
      have hG : RG (rI S d f) F i y G T := h.keep (P := fun c => c = d) (Keep.rI Keep.rf rfl) (fun b hb z => hdi (z ▸ hb))
      have hS : StR (rI S d f) r o W := ⟨hst.1, hst.2.1, hst.2.2.1, fun s hs => by rw [eI_rI, if_neg hnd]; exact hst.2.2.2 s hs⟩
      have m1 : mI (rI S d f) 1301 (y 0) = nI G.m := (h 2).2.1
      obtain ⟨hl1, hl2⟩ := lsE_l h.ok (hW n) h0
      have hl := hl1.1
      subst hXY
      have hXl : X.length ≤ n := by rw [List.length_append] at hMl; omega
      have cX : (nI X.length).toNatClampNeg = X.length := nI_clamp (by omega)
      have ef : eI (rI S d f) d = f := by rw [eI_rI, if_pos rfl]
      have dO : isO (rI S d f) 17 d := hd
      have dN : mN (rI S d f) d = 16 := hdn
      have fin : (∀ x, x ∈ X → G.key x < G.key (lsE G W n)) → ∃ k1, k1 < 100 * (G.m - n) - 60 + X.length ∧ I_tp1 (y 0) r o d G W S k1 [(0, .inr (.inr (some (y 0)))), (1, .inr (.inr (some r))), (2, .inl (nI o)), (3, .inr (.inr (some d))), (4, .inl (nI (X ++ Y).length + 1)), (5, .inl (nI n + 1))] [] (rI (rI S d f) d (upd (eI (rI S d f) d) (nI X.length).toNatClampNeg (nI (lsE G W n)))) 0 0 := fun hX => by
        refine ⟨100 * (G.m - (n + 1)), by omega, n + 1, X ++ lsE G W n :: Y, upd f X.length (nI (lsE G W n)), rfl, hn, tpM.ad h.ok hM h0 hb hX hY, ?_, ins_row hf1 hf2, ?_, rfl, rfl, rfl⟩
        · rw [ef, cX, rI_rI]
        · have : (X ++ lsE G W n :: Y).length = (X ++ Y).length + 1 := by simp; omega
          rw [this, nI_1, nI_1]
      refine if_le (b := 0) (by omega) (by decide) (fun w => ?_) (fun w => ?_)
      · have x0 : X = [] := List.eq_nil_of_length_eq_zero (by omega)
        exact ⟨dO, inRn dN (by omega) (by decide), fin (fun x hx => by rw [x0] at hx; cases hx)⟩
      · obtain ⟨X', z, rfl⟩ : ∃ X' z, X = X' ++ [z] := by
          rcases snoc_cases X with q | q
          · rw [q] at w; exact absurd w (Nat.lt_irrefl _)
          · exact q
        have hXl' : (X' ++ [z]).length = X'.length + 1 := by rw [List.length_append]; rfl
        have hzM : z ∈ (X' ++ [z]) ++ Y := by simp
        obtain ⟨hz, hzs⟩ := hM.lt h.ok hW hzM
        have cX' : (nI X'.length).toNatClampNeg = X'.length := nI_clamp (by omega)
        have ev : eI (rI S d f) d (nI X'.length).toNatClampNeg = nI z := by
          rw [ef, cX', hf1 X'.length (by omega), show X' ++ [z] = X' ++ z :: [] from rfl, (at_app X' [] z).2]
        rw [hXl'] at fin cX hXl hf2 ⊢
        rw [(nI_dcr X'.length).1, (nI_dcr X'.length).2]
        refine ⟨nI z, Or.inl ⟨dO, inRn dN (by omega) (by decide), ev.symm⟩, rfl, lsE G W n, rfl, z, rfl, F, i, y, G, T, ⟨rfl, hG, hl, hz⟩, Nat.le_refl _, Nat.le_refl _, fun q => ⟨dO, inRn dN (by omega) (by decide), fin (fun x hx => ?_)⟩, fun q => ⟨nI z, Or.inl ⟨dO, inRn dN (by omega) (by decide), ev.symm⟩, dO, inRn dN (by omega) (by decide), 100 * (G.m - n) - 60 + X'.length, by omega, n, (X' ++ [z]) ++ Y, upd f (X'.length + 1) (nI z), X', z :: Y, rfl, hn, h0, hM, hb, by simp, fun v hv => ?_, by rw [ef, cX, rI_rI], fun j hj => ?_, fun j hj => ?_, rfl, rfl, rfl, rfl⟩⟩
        · rw [bI_0, decide_eq_false_iff_not] at q
          have hk : G.key z < G.key (lsE G W n) := by
            rcases Nat.lt_trichotomy (G.key z) (G.key (lsE G W n)) with a | a | a
            · exact a
            · have := Gr.key_inj h.ok hz hl a
              rw [this, hl2] at hzs
              exact absurd hzs (Nat.lt_irrefl _)
            · exact absurd a q
          rcases List.mem_append.1 hx with a | a
          · have p1 := (List.pairwise_append.1 (List.pairwise_append.1 hM.1).1).2.2 x a z (by simp)
            exact Nat.lt_trans p1 hk
          · rw [List.mem_singleton.1 a]; exact hk
        · rw [bI_0, Bool.not_eq_false, decide_eq_true_eq] at q
          rcases List.mem_cons.1 hv with a | a
          · rw [a]; exact q
          · exact hY v a
        · rw [upd, if_neg (by omega), hf1 j (by omega), getD_app_l hj]
        · rw [upd]
          cases j with
          | zero => rw [if_pos (by omega)]; rfl
          | succ j =>
            rw [if_neg (by omega)]
            show f (X'.length + 1 + (j + 1)) = nI (Y.getD j 0)
            rw [← hf2 j (by simp at hj; omega)]
            congr 1; omega
theorem u_rtp (l : Launch) : Us l yX12_tops cX12_tops 9 (some .int) 1 23 13 T_rtp := by
  intro Rc Rs av S cs sl K Kx h
  unfold T_rtp at h
  split at h
  · rename_i g_o r_o o_v d_o
    obtain ⟨g, rfl, h_1⟩ := pa_of h
    obtain ⟨r, rfl, h_2⟩ := pa_of h_1
    obtain ⟨d, rfl, h_3⟩ := pa_of h_2
    obtain ⟨o, rfl, h_4⟩ := h_3
    obtain ⟨F, i, y, G, T, W, L, hp, hc, hs, hk⟩ := h_4
    refine ⟨(sp_rtp g r o d F i y G T W L), c_rtp l g r o d F i y G T W L, fun _ _ h9 => ⟨_, _, h9.1, (h9.2.1 ▸ (h9.2.2.1 0).1)⟩, ⟨rfl, hp⟩, hc, hs, fun v9 S' h8 => by
      obtain ⟨h7, h8⟩ := h8
      cases h7
      exact hk _ h8, fun _ _ q => q.elim⟩
  · exact h.elim
