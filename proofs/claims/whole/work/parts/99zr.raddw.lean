/-! ===== The reference's graph: add, its walk ===== -/
theorem RS.cg {S : MM} {F : Nat → Nat × Nat} {i : Nat} {y : Nat → Nat} {fi : Nat → Int32} {fe fe' : Nat → Nat → Int32} {fz : Nat → Nat} (h : RS S F i y fi fe fz) (q : ∀ k, fe' k = fe k) : RS S F i y fi fe' fz := ⟨h.1, h.2.1, h.2.2.1, h.2.2.2.1, fun k hk => (h.2.2.2.2 k hk).trans (q k).symm⟩
theorem RGm.agn {G : Gr} {T : Tr} {a : Nat} {fi fi' : Nat → Int32} {fe fe' : Nat → Nat → Int32} {fz : Nat → Nat} (hm : ∀ j, RGm fi fe fz G T j) (hm16 : G.m < 16) (ha : a < 256) (hno : ∀ t, t < G.m → G.ag t ≠ a) (c1 : fi' 1 = nI (G.m + 1)) (ck : ∀ k, k ≠ 1 → fi' k = fi k) (q3 : fe' 3 = upd (fe 3) G.m (nI a)) (qo : ∀ k, k ≠ 3 → fe' k = fe k) : ∀ j, RGm fi' fe' fz (G.agn a) T j := by
  have cn : ∀ t, (G.agn a).cn t = G.cn t := fun t => Gr.agn_cnt G a G.n t
  have e : ∀ k, 4 ≤ k → fe' k = fe k := fun k hk => qo k (by omega)
  intro j
  match j with
  | 0 => trivial
  | 1 => trivial
  | 2 => exact ⟨(ck 0 (by decide)).trans (hm 2).1, c1, (ck 2 (by decide)).trans (hm 2).2.2⟩
  | 3 =>
    intro t ht
    have ht : t < G.m + 1 := ht
    rw [q3, e 4 (by decide), cn]
    refine ⟨?_, (hm 12 t (by omega)).1⟩
    show upd (fe 3) G.m (nI a) t = nI (updN G.ag G.m a t)
    rw [upd, updN]
    by_cases c : t = G.m
    · rw [if_pos c, if_pos c]
    · rw [if_neg c, if_neg c]
      exact (hm 3 t (by omega)).1
  | 4 =>
    intro t ht
    rw [cn, Gr.agn_evL, e (100 + t) (by omega)]
    exact hm 4 t ht
  | 5 =>
    intro k hk
    rw [e 6 (by decide), e 7 (by decide), e 8 (by decide), e 10 (by decide)]
    exact hm 5 k hk
  | 6 =>
    intro k hk
    rw [e 9 (by decide), e 11 (by decide), e 18 (by decide)]
    exact hm 6 k hk
  | 7 =>
    intro k hk
    rw [e 21 (by decide)]
    exact hm 7 k hk
  | 8 =>
    rw [RGm, e 13 (by decide), e 14 (by decide), e 15 (by decide)]
    exact hm 8
  | 9 => exact (ck 17 (by decide)).trans (hm 9)
  | 10 =>
    intro k hk
    rw [e 19 (by decide), e 20 (by decide)]
    exact hm 10 k hk
  | 11 => exact ⟨Gr.agn_ok (hm 11).1 hm16 ha hno, (hm 11).2⟩
  | 12 =>
    intro t ht
    rw [cn, e 4 (by decide)]
    exact hm 12 t ht
  | n + 13 => trivial
def raP (G : Gr) (T : Tr) (a s : Nat) (W : Nat → Nat) (pr : List Nat) : Prop := a < 256 ∧ G.n < 8192 ∧ ((s < G.m ∧ G.ag s = a) ∨ (s = G.m ∧ G.m < 16 ∧ ∀ t, t < G.m → G.ag t ≠ a)) ∧ (pGr (eGr G s a) s W pr).ok ∧ (T.fl (G.n + 1) = none ∧ T.fr (G.n + 1) = none) ∧ dls G G.n = []
def adQ (S S' : MM) (F : Nat → Nat × Nat) (i : Nat) (y : Nat → Nat) (G : Gr) (T : Tr) (a s : Nat) (W : Nat → Nat) (pr : List Nat) : Prop := ∃ F' y', RG S' F' i y' (pGr (eGr G s a) s W pr) T ∧ FO S' F' ∧ (∀ b, b ∈ mL S → F' b = F b) ∧ Keep (gO F i) S S' ∧ (∀ k, k < 100 → y' k = y k) ∧ eI S' (y 13) G.n = -1 ∧ mI S' 1326 (y 0) = mI S 1326 (y 0)
def ad1 (G : Gr) (s : Nat) : Nat := if rcp (G.cn s) = G.cn s then 1 else 0
def ad2 (G : Gr) (s : Nat) : Nat := if rcp (G.cn s) = G.cn s then 2 * G.cn s else 0
def I_ad1 (g r o : Nat) (F : Nat → Nat × Nat) (i : Nat) (y : Nat → Nat) (G : Gr) (T : Tr) (a s : Nat) (S : MM) (k : Nat) : KT := fun lo st S1 cs sl => k = 100 ∧ RG S1 F i y (eGr G s a) T ∧ Keep (gO F i) S S1 ∧ mI S1 1326 (y 0) = mI S 1326 (y 0) ∧ mL S1 = mL S ∧ lo = [(0, .inr (.inr (some g))), (2, .inr (.inr (some r))), (3, .inl (nI o)), (4, .inl (nI s))] ∧ st = [] ∧ cs = 0 ∧ sl = 0
/-- the rows between: the event stands in slot and number, its agent's row may be new -/
def adM (F : Nat → Nat × Nat) (i : Nat) (y : Nat → Nat) (G : Gr) (T : Tr) (a s : Nat) (S S1 : MM) (F' : Nat → Nat × Nat) (y' : Nat → Nat) (fi : Nat → Int32) (fe : Nat → Nat → Int32) (fz : Nat → Nat) (fa : Nat → Int32) (fz' : Nat → Nat) : Prop := (∀ j, RGm fi fe fz (eGr G s a) T j) ∧ FO S1 F' ∧ (∀ b, b ∈ mL S → F' b = F b) ∧ Keep (gO F i) S S1 ∧ (∀ k, k < 100 → y' k = y k) ∧ (∀ j, j < G.cn s → fa j = fe (100 + s) j) ∧ fz' s = rcp (G.cn s + 1) ∧ (∀ t, t < 16 → t ≠ s → fz' t = fz t) ∧ fi 26 = mI S 1326 (y 0)
def adF (G : Gr) (s : Nat) (fe : Nat → Nat → Int32) : Nat → Nat → Int32 := updF (updF fe 6 (upd (fe 6) G.n (nI s))) 7 (upd (fe 7) G.n (nI (G.cn s)))
theorem raP.s16 {G : Gr} {T : Tr} {a s : Nat} {W : Nat → Nat} {pr : List Nat} (hm : G.m ≤ 16) (hs : (s < G.m ∧ G.ag s = a) ∨ (s = G.m ∧ G.m < 16 ∧ ∀ t, t < G.m → G.ag t ≠ a)) : s < 16 ∧ s < (eGr G s a).m := by
  rcases hs with ⟨a1, a2⟩ | ⟨rfl, a2, a3⟩
  · exact ⟨by omega, by rw [eGr, if_pos a1]; exact a1⟩
  · refine ⟨a2, ?_⟩
    rw [eGr, if_neg (Nat.lt_irrefl _)]
    exact Nat.lt_succ_self _
theorem adF_100 {G : Gr} {s t : Nat} {fe : Nat → Nat → Int32} : adF G s fe (100 + t) = fe (100 + t) := by
  unfold adF updF
  rw [if_neg (by omega), if_neg (by omega)]
def I_ad15 (g r o : Nat) (F : Nat → Nat × Nat) (i : Nat) (y : Nat → Nat) (G : Gr) (T : Tr) (a s : Nat) (S : MM) (k : Nat) : KT := fun lo st S1 cs sl => ∃ fi fe fz, k = 70 ∧ (∀ j, RGm fi fe fz (eGr G s a) T j) ∧ RS S1 F i y (updZ fi 0 (nI (G.n + 1))) (adF G s fe) fz ∧ Keep (gO F i) S S1 ∧ fi 26 = mI S 1326 (y 0) ∧ mL S1 = mL S ∧ lo = [(0, .inr (.inr (some g))), (2, .inr (.inr (some r))), (3, .inl (nI o)), (4, .inl (nI s)), (5, .inl (nI G.n))] ∧ st = [] ∧ cs = 0 ∧ sl = 0
def I_ad2 (g r o : Nat) (F : Nat → Nat × Nat) (i : Nat) (y : Nat → Nat) (G : Gr) (T : Tr) (a s : Nat) (S : MM) (k : Nat) : KT := fun lo st S1 cs sl => ∃ F' y' fi fe fz fa fz', k = 50 ∧ adM F i y G T a s S S1 F' y' fi fe fz fa fz' ∧ RS S1 F' i y' (updZ fi 0 (nI (G.n + 1))) (updF (adF G s fe) (100 + s) fa) fz' ∧ lo = [(0, .inr (.inr (some g))), (2, .inr (.inr (some r))), (3, .inl (nI o)), (4, .inl (nI s)), (5, .inl (nI G.n))] ∧ st = [] ∧ cs = ad1 G s ∧ sl = ad2 G s
def I_ad3 (g r o : Nat) (F : Nat → Nat × Nat) (i : Nat) (y : Nat → Nat) (G : Gr) (T : Tr) (a s : Nat) (W : Nat → Nat) (S : MM) (k : Nat) : KT := fun lo st S1 cs sl => ∃ j F' y' fi fe fz fa fz' f8, j + k = 16 ∧ adM F i y G T a s S S1 F' y' fi fe fz fa fz' ∧ RS S1 F' i y' (updZ fi 0 (nI (G.n + 1))) (updF (updF (updF (adF G s fe) (100 + s) (upd fa (G.cn s) (nI G.n))) 4 (upd (fe 4) s (nI (G.cn s + 1)))) 8 f8) fz' ∧ (∀ j, j < 16 * G.n → f8 j = fe 8 j) ∧ (∀ t, t < j → f8 (16 * G.n + t) = nI (W t)) ∧ lo = [(0, .inr (.inr (some g))), (2, .inr (.inr (some r))), (3, .inl (nI o)), (5, .inl (nI G.n)), (6, .inl (nI j))] ∧ st = [] ∧ cs = ad1 G s ∧ sl = ad2 G s
def T_rad : TR := fun Rc Rs av S cs sl K _Kx => match av with
  | [.inr (.inr g_o), .inl a_v, .inr (.inr r_o), .inl o_v] => pa g_o fun g => (pa r_o fun r => (∃ (a : Nat), a_v = nI a ∧ (∃ (o : Nat), o_v = nI o ∧ (∃ (F : Nat → Nat × Nat) (i : Nat) (y : Nat → Nat) (G : Gr) (T : Tr) (W : Nat → Nat) (s : Nat) (pr : List Nat), (g = y 0 ∧ RG S F i y G T ∧ FO S F ∧ i ≠ 0 ∧ StR S r o W ∧ (F r).1 ≠ i ∧ raP G T a s W pr) ∧ cs + (ad1 G s) ≤ Rc ∧ sl + (ad2 G s) ≤ Rs ∧ (∀ (v : Int32) (S' : MM), (v = nI G.n) ∧ (adQ S S' F i y G T a s W pr) → K (some (.inl v)) S' (cs + (ad1 G s)) (sl + (ad2 G s)))))))
  | _ => False
def sp_rad (g : Nat) (a : Nat) (r : Nat) (o : Nat) (F : Nat → Nat × Nat) (i : Nat) (y : Nat → Nat) (G : Gr) (T : Tr) (W : Nat → Nat) (s : Nat) (pr : List Nat) : Sp := (fun av S => av = [.inr (.inr (some g)), .inl (nI a), .inr (.inr (some r)), .inl (nI o)] ∧ (g = y 0 ∧ RG S F i y G T ∧ FO S F ∧ i ≠ 0 ∧ StR S r o W ∧ (F r).1 ≠ i ∧ raP G T a s W pr), fun _ S => ad1 G s, fun _ S => ad2 G s, fun _ S rv S' => ∃ v, rv = (some (.inl v)) ∧ (v = nI G.n) ∧ (adQ S S' F i y G T a s W pr), fun _ _ _ _ => False)
def tX12_add : CD := [(0, .aload_n 0), (1, .iload_n 1), (2, .invokevirtual 90), (5, .istore 4), (7, .iload 4), (9, .ifCond .ge 27), (12, .aload_n 0), (13, .getfield 87), (16, .istore 4), (18, .aload_n 0), (19, .getfield 9), (22, .iload 4), (24, .iload_n 1), (25, .iastore), (26, .aload_n 0), (27, .dup), (28, .getfield 87), (31, .iconst 1), (32, .iadd), (33, .putfield 87), (36, .aload_n 0), (37, .getfield 108), (40, .istore 5), (42, .aload_n 0), (43, .dup), (44, .getfield 108), (47, .iconst 1), (48, .iadd), (49, .putfield 108), (52, .aload_n 0), (53, .getfield 23), (56, .iload 5), (58, .iload 4), (60, .iastore), (61, .aload_n 0), (62, .getfield 26), (65, .iload 5), (67, .aload_n 0), (68, .getfield 15), (71, .iload 4), (73, .iaload), (74, .iastore), (75, .aload_n 0), (76, .getfield 15), (79, .iload 4), (81, .iaload), (82, .aload_n 0), (83, .getfield 20), (86, .iload 4), (88, .aaload), (89, .arraylength), (90, .if_icmp .ne 29), (93, .aload_n 0), (94, .getfield 20), (97, .iload 4), (99, .aload_n 0), (100, .getfield 20), (103, .iload 4), (105, .aaload), (106, .iconst 2), (107, .aload_n 0), (108, .getfield 15), (111, .iload 4), (113, .iaload), (114, .imul), (115, .invokestatic 111), (118, .aastore), (119, .aload_n 0), (120, .getfield 20), (123, .iload 4), (125, .aaload), (126, .aload_n 0), (127, .getfield 15), (130, .iload 4), (132, .iaload), (133, .iload 5), (135, .iastore), (136, .aload_n 0), (137, .getfield 15), (140, .iload 4), (142, .dup2), (143, .iaload), (144, .iconst 1), (145, .iadd), (146, .iastore), (147, .iconst 0), (148, .istore 6), (150, .iload 6), (152, .bipush 16), (154, .if_icmp .ge 28), (157, .aload_n 0), (158, .getfield 30), (161, .bipush 16), (163, .iload 5), (165, .imul), (166, .iload 6), (168, .iadd), (169, .aload_n 2), (170, .iload_n 3), (171, .iload 6), (173, .iadd), (174, .saload), (175, .sastore), (176, .iinc 6 1), (179, .goto (-29)), (182, .aload_n 0), (183, .getfield 69), (186, .iload 5), (188, .iconst (-1)), (189, .iastore), (190, .aload_n 0), (191, .getfield 50), (194, .iload 5), (196, .iconst (-1)), (197, .iastore), (198, .aload_n 0), (199, .getfield 53), (202, .iload 5), (204, .iconst (-1)), (205, .iastore), (206, .aload_n 0), (207, .getfield 47), (210, .iload 5), (212, .iconst (-1)), (213, .iastore), (214, .iload 5), (216, .ireturn)]
set_option maxRecDepth 100000 in
theorem kX12_add : chk cX12_add tX12_add = true := by decide +kernel
theorem vX12_add_90 : ∀ w ∈ ([.methodLink RX12 90 yX12_slotOf, .instanceMethod yX12_slotOf, .selects yX12_slotOf.cls yX12_slotOf yX12_slotOf, .initialized yX12_slotOf.cls, .code yX12_slotOf cX12_slotOf 3 (some .int)] : List Cond), w ∈ lw_good := List.forall_mem_cons.mpr ⟨mgd 1983 (by decide +kernel) (by decide +kernel), List.forall_mem_cons.mpr ⟨mgd 1976 (by decide +kernel) (by decide +kernel), List.forall_mem_cons.mpr ⟨mgd 1977 (by decide +kernel) (by decide +kernel), List.forall_mem_cons.mpr ⟨mgd 138 (by decide +kernel) (by decide +kernel), List.forall_mem_cons.mpr ⟨mgd 1978 (by decide +kernel) (by decide +kernel), fun _ h => absurd h List.not_mem_nil⟩⟩⟩⟩⟩
theorem vX12_add_111 : ∀ w ∈ ([.methodLink RX12 111 yJ7_copyOf_59c91, .static yJ7_copyOf_59c91, .initialized yJ7_copyOf_59c91.cls, .code yJ7_copyOf_59c91 cJ7_copyOf_59c91 3 (some (.array .int))] : List Cond), w ∈ lw_good := List.forall_mem_cons.mpr ⟨mgd 1996 (by decide +kernel) (by decide +kernel), List.forall_mem_cons.mpr ⟨mgd 1267 (by decide +kernel) (by decide +kernel), List.forall_mem_cons.mpr ⟨mgd 135 (by decide +kernel) (by decide +kernel), List.forall_mem_cons.mpr ⟨mgd 1268 (by decide +kernel) (by decide +kernel), fun _ h => absurd h List.not_mem_nil⟩⟩⟩⟩
set_option maxRecDepth 100000 in
set_option maxHeartbeats 2000000 in
theorem c_rad (l : Launch) : ∀ (g : Nat) (a : Nat) (r : Nat) (o : Nat) (F : Nat → Nat × Nat) (i : Nat) (y : Nat → Nat) (G : Gr) (T : Tr) (W : Nat → Nat) (s : Nat) (pr : List Nat), Ct l yX12_add cX12_add 7 (some .int) 2 54 (sp_rad g a r o F i y G T W s pr) := by
  intro g a r o F i y G T W s pr
  refine Ct.of (fX12, nX12, aX12, iX12, lX12, [(90, 0, 2, 1, T_rsl), (111, 2, 2, 3, T_cpi)], qX12, gX12, []) false tX12_add (fun _ S => look [(36, ([0,2,3,4], I_ad1 g r o F i y G T a s S)), (75, ([0,2,3,4,5], I_ad15 g r o F i y G T a s S)), (119, ([0,2,3,4,5], I_ad2 g r o F i y G T a s S)), (150, ([0,2,3,5,6], I_ad3 g r o F i y G T a s W S))]) (by decide) (by decide) kX12_add ⟨_, _, rfl⟩ fX12_ok nX12_ok aX12_ok iX12_ok lX12_ok (fun p e R s m args below meth c Q D cy z r A C hR1 hR2 => List.forall_mem_cons.mpr ⟨cOK_use (fun _ _ _ _ _ _ _ _ h => let ⟨sp, h1, h2, h3⟩ := u_rsl l _ _ _ _ _ _ _ _ h; ⟨sp, cOK_V C h1 vX12_add_90 ⟨by decide, by decide, by decide +kernel⟩ ⟨by rw [hR1]; decide, by rw [hR2]; decide⟩ (k := 13) (T := TX12) (N := 27) rfl (by decide) h2, h3⟩), List.forall_mem_cons.mpr ⟨cOK_use (fun _ _ _ _ _ _ _ _ h => let ⟨sp, h1, _, h3⟩ := u_cpi l _ _ _ _ _ _ _ _ h; ⟨sp, cOK_S C h1 vX12_add_111 ⟨by decide, by decide, by decide +kernel⟩ ⟨by rw [hR1]; decide, by rw [hR2]; decide⟩, h3⟩), fun _ h => absurd h List.not_mem_nil⟩⟩) qX12_ok gX12_ok rfl ?_ ?_
  · rintro _ S ⟨rfl, hp⟩
    refine ⟨Nat.le_of_ble_eq_true rfl, 300, ?_⟩
    show (0 = 0 ∧ (∃ (a_1 : Nat), nI a = nI a_1 ∧ (∃ (F_2 : Nat → Nat × Nat) (i_3 : Nat) (y_4 : Nat → Nat) (G_5 : Gr) (T_6 : Tr), (g = y_4 0 ∧ RG S F_2 i_3 y_4 G_5 T_6 ∧ a_1 < 256) ∧ 0 ≤ ad1 G s ∧ 0 ≤ ad2 G s ∧ (∀ (x_8 : Int32), (slR G_5 a_1 x_8) → ((0 ≤ x_8 → (∃ k1, I_ad1 g r o F i y G T a s S k1 [(0, .inr (.inr (some g))), (2, .inr (.inr (some r))), (3, .inl (nI o)), (4, .inl x_8)] [] S 0 0)) ∧ (¬ 0 ≤ x_8 → (isO S 13 g ∧ (isO S 13 g ∧ (pa (mR S 1303 g) fun a_9 => isO S 17 a_9 ∧ inR S a_9 (mI S 1301 g) ∧ (isO (rI S a_9 (upd (eI S a_9) (mI S 1301 g).toNatClampNeg (nI a))) 13 g ∧ (True ∧ (isO (rI S a_9 (upd (eI S a_9) (mI S 1301 g).toNatClampNeg (nI a))) 13 g ∧ (∃ k1, I_ad1 g r o F i y G T a s S k1 [(0, .inr (.inr (some g))), (2, .inr (.inr (some r))), (3, .inl (nI o)), (4, .inl (mI S 1301 g))] [] (sI (rI S a_9 (upd (eI S a_9) (mI S 1301 g).toNatClampNeg (nI a))) 1301 g ((mI (rI S a_9 (upd (eI S a_9) (mI S 1301 g).toNatClampNeg (nI a))) 1301 g) + (1 : Int32))) 0 0)))))))))))))
    obtain ⟨rfl, h, hF, hi, hw, hr, ha, hn, hs, hok, hT, hD⟩ := hp
    have hnm := h.nm
    refine ⟨rfl, a, rfl, F, i, y, G, T, ⟨rfl, h, ha⟩, Nat.zero_le _, Nat.zero_le _, fun x hx => ?_⟩
    rcases hx with ⟨rfl, hno⟩ | ⟨s', hs', hag, rfl⟩
    · rcases hs with ⟨a1, a2⟩ | ⟨rfl, hm16, hnn⟩
      · exact absurd a2 (hno s a1)
      · have m1 : mI S 1301 (y 0) = nI G.m := (h 2).2.1
        have w3 : rwK 3 := Or.inl (by decide)
        have cm : (nI G.m).toNatClampNeg = G.m := nI_clamp (by omega)
        have eG : eGr G G.m a = G.agn a := if_neg (Nat.lt_irrefl _)
        have h1 := (h.rs.wr w3 cm (nI a)).si 1 (nI (G.m + 1))
        rw [m1]
        refine ⟨fun z => absurd z (by decide), fun _ => ⟨(h 0).1, (h 0).1, pa_i h.r3.1 ⟨h.r3.2.1, inRn h.r3.2.2 (by omega) (by decide), (h 0).1, trivial, (h 0).1, 100, rfl, ?_, Keep.sI (P := gO F i) (Keep.rI (P := gO F i) Keep.rf (h.rs.gown w3 (Or.inl (by decide)))) h.rs.gobj, rfl, rfl, rfl, rfl, rfl, rfl⟩⟩⟩
        rw [eG, mI_rI, m1, nI_1]
        exact h1.rg (RGm.agn h.rm hm16 ha hnn rfl (fun k hk => if_neg hk) rfl (fun k hk => if_neg hk))
    · have e : s' = s := by
        rcases hs with ⟨a1, a2⟩ | ⟨a1, a2, a3⟩
        · exact h.ok.ag2 _ _ hs' a1 (hag.trans a2.symm)
        · exact absurd hag (a3 s' hs')
      subst e
      refine ⟨fun _ => ⟨100, rfl, ?_, Keep.rf, rfl, rfl, rfl, rfl, rfl, rfl⟩, fun z => absurd (nI_pos' (show s' < 2147483648 by omega)) z⟩
      rw [eGr, if_pos hs']
      exact h
  · intro av S hpre pc I hI k lo st S1 cs sl h
    obtain ⟨rfl, hp⟩ := hpre
    have hm := look_in hI
    simp only [List.mem_cons, List.not_mem_nil, or_false] at hm
    rcases hm with hm | hm | hm | hm
    · cases hm
      obtain ⟨rfl, hG, hK, h26, hL, rfl, rfl, rfl, rfl⟩ := h
      refine ⟨300, ?_⟩
      show (isO S1 13 g ∧ (isO S1 13 g ∧ (True ∧ (isO S1 13 g ∧ (isO (sI S1 1300 g ((mI S1 1300 g) + (1 : Int32))) 13 g ∧ (pa (mR (sI S1 1300 g ((mI S1 1300 g) + (1 : Int32))) 1306 g) fun a_1 => isO (sI S1 1300 g ((mI S1 1300 g) + (1 : Int32))) 17 a_1 ∧ inR (sI S1 1300 g ((mI S1 1300 g) + (1 : Int32))) a_1 (mI S1 1300 g) ∧ (isO (rI (sI S1 1300 g ((mI S1 1300 g) + (1 : Int32))) a_1 (upd (eI (sI S1 1300 g ((mI S1 1300 g) + (1 : Int32))) a_1) (mI S1 1300 g).toNatClampNeg (nI s))) 13 g ∧ (isO (rI (sI S1 1300 g ((mI S1 1300 g) + (1 : Int32))) a_1 (upd (eI (sI S1 1300 g ((mI S1 1300 g) + (1 : Int32))) a_1) (mI S1 1300 g).toNatClampNeg (nI s))) 13 g ∧ (pa (mR (rI (sI S1 1300 g ((mI S1 1300 g) + (1 : Int32))) a_1 (upd (eI (sI S1 1300 g ((mI S1 1300 g) + (1 : Int32))) a_1) (mI S1 1300 g).toNatClampNeg (nI s))) 1304 g) fun a_2 => ∃ v_3 : Int32, (isO (rI (sI S1 1300 g ((mI S1 1300 g) + (1 : Int32))) a_1 (upd (eI (sI S1 1300 g ((mI S1 1300 g) + (1 : Int32))) a_1) (mI S1 1300 g).toNatClampNeg (nI s))) 17 a_2 ∧ inR (rI (sI S1 1300 g ((mI S1 1300 g) + (1 : Int32))) a_1 (upd (eI (sI S1 1300 g ((mI S1 1300 g) + (1 : Int32))) a_1) (mI S1 1300 g).toNatClampNeg (nI s))) a_2 (nI s) ∧ v_3 = eI (rI (sI S1 1300 g ((mI S1 1300 g) + (1 : Int32))) a_1 (upd (eI (sI S1 1300 g ((mI S1 1300 g) + (1 : Int32))) a_1) (mI S1 1300 g).toNatClampNeg (nI s))) a_2 (nI s).toNatClampNeg ∨ a_2 = (mQ (rI (sI S1 1300 g ((mI S1 1300 g) + (1 : Int32))) a_1 (upd (eI (sI S1 1300 g ((mI S1 1300 g) + (1 : Int32))) a_1) (mI S1 1300 g).toNatClampNeg (nI s)))).1 ∧ vp_in (nI s) 16 ∧ v_3 = mRem (nI s).toNatClampNeg) ∧ (pa (mR (rI (sI S1 1300 g ((mI S1 1300 g) + (1 : Int32))) a_1 (upd (eI (sI S1 1300 g ((mI S1 1300 g) + (1 : Int32))) a_1) (mI S1 1300 g).toNatClampNeg (nI s))) 1307 g) fun a_4 => isO (rI (sI S1 1300 g ((mI S1 1300 g) + (1 : Int32))) a_1 (upd (eI (sI S1 1300 g ((mI S1 1300 g) + (1 : Int32))) a_1) (mI S1 1300 g).toNatClampNeg (nI s))) 17 a_4 ∧ inR (rI (sI S1 1300 g ((mI S1 1300 g) + (1 : Int32))) a_1 (upd (eI (sI S1 1300 g ((mI S1 1300 g) + (1 : Int32))) a_1) (mI S1 1300 g).toNatClampNeg (nI s))) a_4 (mI S1 1300 g) ∧ (∃ k1, k1 < 100 ∧ I_ad15 g r o F i y G T a s S k1 [(0, .inr (.inr (some g))), (2, .inr (.inr (some r))), (3, .inl (nI o)), (4, .inl (nI s)), (5, .inl (mI S1 1300 g))] [] (rI (rI (sI S1 1300 g ((mI S1 1300 g) + (1 : Int32))) a_1 (upd (eI (sI S1 1300 g ((mI S1 1300 g) + (1 : Int32))) a_1) (mI S1 1300 g).toNatClampNeg (nI s))) a_4 (upd (eI (rI (sI S1 1300 g ((mI S1 1300 g) + (1 : Int32))) a_1 (upd (eI (sI S1 1300 g ((mI S1 1300 g) + (1 : Int32))) a_1) (mI S1 1300 g).toNatClampNeg (nI s))) a_4) (mI S1 1300 g).toNatClampNeg v_3)) 0 0)))))))))))
      obtain ⟨rfl, h, hF, hi, hw, hr, ha, hn, hs, hok, hT, hD⟩ := hp
      have hmm : G.m ≤ 16 := h.nm.2
      have hs16 := (raP.s16 (T := T) (W := W) (pr := pr) hmm hs).1
      have e0 : mI S1 1300 (y 0) = nI G.n := (hG 2).1.trans (by rw [(eGr_n G s a).1])
      have cG : (nI G.n).toNatClampNeg = G.n := nI_clamp (by omega)
      have cs : (nI s).toNatClampNeg = s := nI_clamp (by omega)
      have w4 : rwK 4 := Or.inl (by decide)
      have w6 : rwK 6 := Or.inl (by decide)
      have w7 : rwK 7 := Or.inl (by decide)
      have h0 := hG.rs
      have h1 := h0.si 0 (nI (G.n + 1))
      have h2 := h1.wr w6 cG (nI s)
      have h3 := h2.wr w7 cG (nI (G.cn s))
      have v4 := h2.e w4
      rw [e0, nI_1]
      refine ⟨(hG 0).1, (hG 0).1, trivial, (hG 0).1, (hG 0).1, pa_i hG.r6.1 ⟨hG.r6.2.1, inRn hG.r6.2.2 (show G.n < 8192 by omega) (by decide), (hG 0).1, (hG 0).1, pa_i hG.r4.1 ⟨nI (G.cn s), Or.inl ⟨hG.r4.2.1, inRn hG.r4.2.2 hs16 (by decide), ?_⟩, pa_i hG.r7.1 ⟨hG.r7.2.1, inRn hG.r7.2.2 (show G.n < 8192 by omega) (by decide), 70, by decide, _, _, _, rfl, hG.rm, h3, ?_, h26, hL, rfl, rfl, rfl, rfl⟩⟩⟩⟩
      · rw [v4, cs]
        exact ((hG 12 s hs16).1.trans (by rw [eGr_cn])).symm
      · exact Keep.rI (P := gO F i) (Keep.rI (P := gO F i) (Keep.sI (P := gO F i) hK h0.gobj) (h0.gown w6 (Or.inl (by decide)))) (h0.gown w7 (Or.inl (by decide)))
    · cases hm
      obtain ⟨fi, fe, fz, rfl, hM, hR, hK, h26, hL, rfl, rfl, rfl, rfl⟩ := h
      refine ⟨300, ?_⟩
      show (isO S1 13 g ∧ (pa (mR S1 1304 g) fun a_1 => ∃ v_2 : Int32, (isO S1 17 a_1 ∧ inR S1 a_1 (nI s) ∧ v_2 = eI S1 a_1 (nI s).toNatClampNeg ∨ a_1 = (mQ S1).1 ∧ vp_in (nI s) 16 ∧ v_2 = mRem (nI s).toNatClampNeg) ∧ (isO S1 13 g ∧ (pa (mR S1 1305 g) fun a_3 => a_3 ∈ mL S1 ∧ ¬ mK S1 a_3 < 21 ∧ mK S1 a_3 < 29 ∧ inR S1 a_3 (nI s) ∧ (pa (eR S1 a_3 (nI s).toNatClampNeg) fun a_4 => ∃ v_5 : Int32, (a_4 ∈ mL S1 ∧ ¬ mK S1 a_4 < 16 ∧ mK S1 a_4 < 29 ∧ v_5 = Int32.ofNat (mN S1 a_4) ∨ a_4 = mZ S1 ∧ v_5 = 0) ∧ ((¬ v_2 = v_5 → (∃ k1, k1 < 70 ∧ I_ad2 g r o F i y G T a s S k1 [(0, .inr (.inr (some g))), (2, .inr (.inr (some r))), (3, .inl (nI o)), (4, .inl (nI s)), (5, .inl (nI G.n))] [] S1 0 0)) ∧ (v_2 = v_5 → (isO S1 13 g ∧ (isO S1 13 g ∧ (pa (mR S1 1305 g) fun a_6 => a_6 ∈ mL S1 ∧ ¬ mK S1 a_6 < 21 ∧ mK S1 a_6 < 29 ∧ inR S1 a_6 (nI s) ∧ (isO S1 13 g ∧ (pa (mR S1 1304 g) fun a_7 => ∃ v_8 : Int32, (isO S1 17 a_7 ∧ inR S1 a_7 (nI s) ∧ v_8 = eI S1 a_7 (nI s).toNatClampNeg ∨ a_7 = (mQ S1).1 ∧ vp_in (nI s) 16 ∧ v_8 = mRem (nI s).toNatClampNeg) ∧ (2 = 2 ∧ ((pa (eR S1 a_6 (nI s).toNatClampNeg) fun a_9 => (∃ (n_10 : Nat), (2 : Int32) * v_8 = nI n_10 ∧ ((isO S1 17 a_9 ∧ mN S1 a_9 < n_10 ∧ n_10 ≤ 60000000) ∧ 0 + 1 ≤ ad1 G s ∧ 0 + n_10 ≤ ad2 G s ∧ (∀ (x_12 : Option Nat) (S_11 : MM), (∃ q, q ∉ mL S1 ∧ x_12 = some q ∧ S_11 = cpI S1 a_9 q n_10) → (pa (mR S1 1305 g) fun a_13 => a_13 ∈ mL S_11 ∧ ¬ mK S_11 a_13 < 21 ∧ mK S_11 a_13 < 29 ∧ inR S_11 a_13 (nI s) ∧ (∀ w_14, x_12 = some w_14 → w_14 ∈ mL S_11 ∧ (mK S_11 a_13 = 21 ∧ mK S_11 w_14 = 1 ∨ mK S_11 a_13 = 22 ∧ mK S_11 w_14 = 2 ∨ mK S_11 a_13 = 23 ∧ mK S_11 w_14 = 5 ∨ mK S_11 a_13 = 24 ∧ mK S_11 w_14 = 11 ∨ mK S_11 a_13 = 25 ∧ mK S_11 w_14 = 13 ∨ mK S_11 a_13 = 26 ∧ (mK S_11 w_14 = 4 ∨ mK S_11 w_14 = 5) ∨ mK S_11 a_13 = 27 ∧ mK S_11 w_14 = 16 ∨ mK S_11 a_13 = 28 ∧ mK S_11 w_14 = 17)) ∧ (∃ k1, k1 < 70 ∧ I_ad2 g r o F i y G T a s S k1 [(0, .inr (.inr (some g))), (2, .inr (.inr (some r))), (3, .inl (nI o)), (4, .inl (nI s)), (5, .inl (nI G.n))] [] (rR S_11 a_13 (va_up (eR S_11 a_13) (nI s).toNatClampNeg x_12)) (0 + 1) (0 + n_10)))))))))))))))))))))
      obtain ⟨rfl, h, hF, hi, hw, hr, ha, hn, hs, hok, hT, hD⟩ := hp
      have hmm : G.m ≤ 16 := h.nm.2
      have hs16 := (raP.s16 (T := T) (W := W) (pr := pr) hmm hs).1
      have cs : (nI s).toNatClampNeg = s := nI_clamp (by omega)
      have w4 : rwK 4 := Or.inl (by decide)
      have h12 := hM 12 s hs16
      rw [eGr_cn] at h12
      have hcn : G.cn s ≤ 8192 := by
        have := cn_le h.ok s
        omega
      have rg1 := rcp_ge (G.cn s)
      have rg2 := rcp_le (G.cn s)
      have r4 := hR.r (k := 4) (by decide)
      have r5 := hR.r (k := 5) (by decide)
      obtain ⟨a1, a2, a3, a4⟩ := hR.2.2.2.1 s hs16
      have e4 : eI S1 (y 4) (nI s).toNatClampNeg = nI (G.cn s) := by rw [hR.e w4, cs]; exact h12.1
      have a1' : eR S1 (y 5) (nI s).toNatClampNeg = some (y (100 + s)) := by rw [cs]; exact a1
      refine ⟨hR.1.1, rdI r4.1 r4.2.1 (inRn r4.2.2 hs16 (by decide)) e4 ⟨hR.1.1, pa_i r5.1 ⟨r5.2.1.1, by rw [r5.2.1.2]; decide, by rw [r5.2.1.2]; decide, inRn r5.2.2 hs16 (by decide), pa_i a1' ⟨nI (fz s), Or.inl ⟨a2.1, by rw [a2.2]; decide, by rw [a2.2]; decide, by rw [a4]; rfl⟩, ?_⟩⟩⟩⟩
      rw [h12.2]
      refine if_ne (by omega) (by omega) (fun w => ?_) (fun w => ?_)
      · have w' : ¬ (rcp (G.cn s) = G.cn s) := fun z => w z.symm
        refine ⟨50, by decide, F, y, fi, fe, fz, fe (100 + s), fz, rfl, ⟨hM, fun b hb => by rw [hL]; exact hF b hb, fun _ _ => rfl, hK, fun _ _ => rfl, fun _ _ => rfl, by rw [h12.2]; exact (if_neg w').symm, fun _ _ _ => rfl, h26⟩, hR.cg (fun k => ?_), rfl, rfl, (if_neg w').symm, (if_neg w').symm⟩
        rw [updF]
        by_cases c : k = 100 + s
        · subst c; rw [if_pos rfl, adF_100]
        · rw [if_neg c]
      · have w' : rcp (G.cn s) = G.cn s := w.symm
        have q5 : ∀ b, b ∈ mL S → b ∈ mL S1 := fun b hb => by rw [hL]; exact hb
        refine ⟨hR.1.1, hR.1.1, pa_i r5.1 ⟨r5.2.1.1, by rw [r5.2.1.2]; decide, by rw [r5.2.1.2]; decide, inRn r5.2.2 hs16 (by decide), hR.1.1, rdI r4.1 r4.2.1 (inRn r4.2.2 hs16 (by decide)) e4 ⟨rfl, pa_i a1' ⟨2 * G.cn s, nI_mul2 (by omega), ⟨a2, by rw [a4, h12.2]; omega, by omega⟩, ?_, ?_, fun x S11 hx => ?_⟩⟩⟩⟩
        · rw [ad1, if_pos w']; exact Nat.le_refl _
        · rw [ad2, if_pos w']; omega
        · obtain ⟨q, hq, rfl, rfl⟩ := hx
          have hg := hR.grow hi hs16 (n := 2 * G.cn s) hq
          have k5 : isO (cpI S1 (y (100 + s)) q (2 * G.cn s)) 28 (y 5) := isO_rI (isO_nA r5.2.1 hq)
          have kq : isO (cpI S1 (y (100 + s)) q (2 * G.cn s)) 17 q := isO_rI isO_nA_self
          have n5 : mN (cpI S1 (y (100 + s)) q (2 * G.cn s)) (y 5) = 16 := by
            show mN (nA S1 q 17 (2 * G.cn s)) (y 5) = 16
            rw [mN_nA, if_neg (fun (e : y 5 = q) => hq (e ▸ r5.2.1.1))]
            exact r5.2.2
          refine pa_i r5.1 ⟨k5.1, by rw [k5.2]; decide, by rw [k5.2]; decide, inRn n5 hs16 (by decide), fun w9 ew => ?_, 50, by decide, Fat F i s q, yat y s q, fi, fe, fz, (fun k => if k < fz s then adF G s fe (100 + s) k else 0), updN fz s (2 * G.cn s), rfl, ⟨hM, fun b hb => ?_, fun b hb => if_neg (fun (e : b = q) => hq (e ▸ q5 b hb)), ?_, fun k9 hk9 => if_neg (by omega), fun j hj => ?_, ?_, fun t ht hts => if_neg hts, h26⟩, by rw [cs]; exact hg, rfl, rfl, ?_, ?_⟩
          · cases ew
            exact ⟨kq.1, by rw [k5.2, kq.2]; decide⟩
          · rw [Fat] at hb
            by_cases c : b = q
            · rw [c]; exact kq.1
            · rw [if_neg c] at hb
              exact List.mem_append_left _ (q5 b (hF b hb))
          · refine Keep.rR (P := gO F i) (Keep.trN hK (Keep.rI (P := fun b => b = q) (Keep.nA Keep.rf hq) rfl) (fun b hb e => absurd (q5 b hb) (e ▸ hq))) ⟨5, (hR.2.1 5 (by decide) (by decide) (by decide)).2.1, Or.inr (Or.inl (by decide))⟩
          · show (if j < fz s then adF G s fe (100 + s) j else 0) = _
            rw [if_pos (by omega), adF_100]
          · rw [updN, if_pos rfl, rcp, if_pos w']
          · rw [ad1, if_pos w']
          · rw [ad2, if_pos w']; omega
    · cases hm
      obtain ⟨F', y', fi, fe, fz, fa, fz', rfl, hM, hR, rfl, rfl, rfl, rfl⟩ := h
      refine ⟨300, ?_⟩
      show (isO S1 13 g ∧ (pa (mR S1 1305 g) fun a_1 => a_1 ∈ mL S1 ∧ ¬ mK S1 a_1 < 21 ∧ mK S1 a_1 < 29 ∧ inR S1 a_1 (nI s) ∧ (isO S1 13 g ∧ (pa (mR S1 1304 g) fun a_2 => ∃ v_3 : Int32, (isO S1 17 a_2 ∧ inR S1 a_2 (nI s) ∧ v_3 = eI S1 a_2 (nI s).toNatClampNeg ∨ a_2 = (mQ S1).1 ∧ vp_in (nI s) 16 ∧ v_3 = mRem (nI s).toNatClampNeg) ∧ (pa (eR S1 a_1 (nI s).toNatClampNeg) fun a_4 => isO S1 17 a_4 ∧ inR S1 a_4 v_3 ∧ (isO (rI S1 a_4 (upd (eI S1 a_4) v_3.toNatClampNeg (nI G.n))) 13 g ∧ (pa (mR (rI S1 a_4 (upd (eI S1 a_4) v_3.toNatClampNeg (nI G.n))) 1304 g) fun a_5 => ∃ v_6 : Int32, (isO (rI S1 a_4 (upd (eI S1 a_4) v_3.toNatClampNeg (nI G.n))) 17 a_5 ∧ inR (rI S1 a_4 (upd (eI S1 a_4) v_3.toNatClampNeg (nI G.n))) a_5 (nI s) ∧ v_6 = eI (rI S1 a_4 (upd (eI S1 a_4) v_3.toNatClampNeg (nI G.n))) a_5 (nI s).toNatClampNeg ∨ a_5 = (mQ (rI S1 a_4 (upd (eI S1 a_4) v_3.toNatClampNeg (nI G.n)))).1 ∧ vp_in (nI s) 16 ∧ v_6 = mRem (nI s).toNatClampNeg) ∧ (pa (mR (rI S1 a_4 (upd (eI S1 a_4) v_3.toNatClampNeg (nI G.n))) 1304 g) fun a_7 => isO (rI S1 a_4 (upd (eI S1 a_4) v_3.toNatClampNeg (nI G.n))) 17 a_7 ∧ inR (rI S1 a_4 (upd (eI S1 a_4) v_3.toNatClampNeg (nI G.n))) a_7 (nI s) ∧ (∃ k1, k1 < 50 ∧ I_ad3 g r o F i y G T a s W S k1 [(0, .inr (.inr (some g))), (2, .inr (.inr (some r))), (3, .inl (nI o)), (5, .inl (nI G.n)), (6, .inl (0 : Int32))] [] (rI (rI S1 a_4 (upd (eI S1 a_4) v_3.toNatClampNeg (nI G.n))) a_7 (upd (eI (rI S1 a_4 (upd (eI S1 a_4) v_3.toNatClampNeg (nI G.n))) a_7) (nI s).toNatClampNeg (v_6 + (1 : Int32)))) (ad1 G s) (ad2 G s))))))))))
      obtain ⟨rfl, h, hF, hi, hw, hr, ha, hn, hs, hok, hT, hD⟩ := hp
      obtain ⟨hm, hFO, hFb, hK, hy, hfa, hz1, hz2, h26⟩ := hM
      have hmm : G.m ≤ 16 := h.nm.2
      have hs16 := (raP.s16 (T := T) (W := W) (pr := pr) hmm hs).1
      have cs : (nI s).toNatClampNeg = s := nI_clamp (by omega)
      have w4 : rwK 4 := Or.inl (by decide)
      have wa : rwK (100 + s) := Or.inr (by omega)
      have h12 := hm 12 s hs16
      rw [eGr_cn] at h12
      have hcn : G.cn s ≤ 8192 := by
        have := cn_le h.ok s
        omega
      have cc : (nI (G.cn s)).toNatClampNeg = G.cn s := nI_clamp (by omega)
      have rg1 := rcp_ge (G.cn s + 1)
      have rg2 := rcp_le (G.cn s + 1)
      have r4 := hR.r (k := 4) (by decide)
      have r5 := hR.r (k := 5) (by decide)
      obtain ⟨a1, a2, a3, a4⟩ := hR.2.2.2.1 s hs16
      have a1' : eR S1 (y' 5) (nI s).toNatClampNeg = some (y' (100 + s)) := by rw [cs]; exact a1
      have eA : (updF (adF G s fe) (100 + s) fa) (100 + s) = fa := if_pos rfl
      have e40 : (updF (adF G s fe) (100 + s) fa) 4 = fe 4 := if_neg (by omega)
      have e4 : eI S1 (y' 4) (nI s).toNatClampNeg = nI (G.cn s) := by rw [hR.e w4, cs, e40]; exact h12.1
      have h1 := hR.wr wa cc (nI G.n)
      rw [eA] at h1
      have e41 : ∀ f, (updF (updF (adF G s fe) (100 + s) fa) (100 + s) f) 4 = fe 4 := fun f => (if_neg (by omega)).trans e40
      have e4' := h1.e w4
      rw [e41] at e4'
      have h2 := h1.wr w4 cs (nI (G.cn s + 1))
      rw [e41] at h2
      rw [← hy 0 (by decide)]
      refine ⟨hR.1.1, pa_i r5.1 ⟨r5.2.1.1, by rw [r5.2.1.2]; decide, by rw [r5.2.1.2]; decide, inRn r5.2.2 hs16 (by decide), hR.1.1, rdI r4.1 r4.2.1 (inRn r4.2.2 hs16 (by decide)) e4 (pa_i a1' ⟨a2, inRn (a4.trans hz1) (by omega) (by omega), hR.1.1, pa_i r4.1 ⟨nI (G.cn s), Or.inl ⟨r4.2.1, inRn r4.2.2 hs16 (by decide), ?_⟩, pa_i r4.1 ⟨r4.2.1, inRn r4.2.2 hs16 (by decide), 16, by decide, 0, F', y', fi, fe, fz, fa, fz', fe 8, rfl, ⟨hm, hFO, hFb, ?_, hy, hfa, hz1, hz2, h26⟩, ?_, fun _ _ => rfl, (fun t ht => absurd ht (Nat.not_lt_zero t)), rfl, rfl, rfl, rfl⟩⟩⟩)⟩⟩
      · rw [e4', cs]; exact h12.1.symm
      · have hF1 : ∀ k, rwK k → ((3 ≤ k ∧ k ≤ 21) ∨ (100 ≤ k ∧ k < 116)) → gO F i (y' k) ∨ y' k ∉ mL S := fun k hk hk9 => by
          by_cases c : y' k ∈ mL S
          · exact Or.inl ⟨k, by rw [← hFb _ c]; exact hR.role hk, Or.inr hk9⟩
          · exact Or.inr c
        have kp : ∀ {S2 : MM} {k : Nat} {f : Nat → Int32}, rwK k → ((3 ≤ k ∧ k ≤ 21) ∨ (100 ≤ k ∧ k < 116)) → Keep (gO F i) S S2 → Keep (gO F i) S (rI S2 (y' k) f) := fun {S2 k f} hk hk9 h9 => Keep.trN h9 (Keep.rI (P := fun b => b = y' k) Keep.rf rfl) (fun b hb e => (hF1 k hk hk9).elim (fun z => e ▸ z) (fun z => absurd hb (e ▸ z)))
        exact kp w4 (Or.inl (by decide)) (kp wa (Or.inr (by omega)) hK)
      · rw [nI_1]
        refine h2.cg (fun k => ?_)
        generalize upd fa (G.cn s) (nI G.n) = fb
        generalize upd (fe 4) s (nI (G.cn s + 1)) = f4
        unfold updF
        by_cases c8 : k = 8
        · subst c8
          rw [if_pos rfl, if_neg (by decide), if_neg (by omega), if_neg (by omega)]; rfl
        · rw [if_neg c8]
          by_cases c4 : k = 4
          · rw [if_pos c4, if_pos c4]
          · rw [if_neg c4, if_neg c4]
            by_cases ca : k = 100 + s
            · rw [if_pos ca, if_pos ca]
            · rw [if_neg ca, if_neg ca, if_neg ca]
    · cases hm
      obtain ⟨j, F', y', fi, fe, fz, fa, fz', f8, hj, hM, hR, h8, hw, rfl, rfl, rfl, rfl⟩ := h
      refine ⟨300, ?_⟩
      show (((16 : Int32) ≤ (nI j) → (isO S1 13 g ∧ (pa (mR S1 1320 g) fun a_1 => isO S1 17 a_1 ∧ inR S1 a_1 (nI G.n) ∧ (isO (rI S1 a_1 (upd (eI S1 a_1) (nI G.n).toNatClampNeg (-1 : Int32))) 13 g ∧ (pa (mR (rI S1 a_1 (upd (eI S1 a_1) (nI G.n).toNatClampNeg (-1 : Int32))) 1314 g) fun a_2 => isO (rI S1 a_1 (upd (eI S1 a_1) (nI G.n).toNatClampNeg (-1 : Int32))) 17 a_2 ∧ inR (rI S1 a_1 (upd (eI S1 a_1) (nI G.n).toNatClampNeg (-1 : Int32))) a_2 (nI G.n) ∧ (isO (rI (rI S1 a_1 (upd (eI S1 a_1) (nI G.n).toNatClampNeg (-1 : Int32))) a_2 (upd (eI (rI S1 a_1 (upd (eI S1 a_1) (nI G.n).toNatClampNeg (-1 : Int32))) a_2) (nI G.n).toNatClampNeg (-1 : Int32))) 13 g ∧ (pa (mR (rI (rI S1 a_1 (upd (eI S1 a_1) (nI G.n).toNatClampNeg (-1 : Int32))) a_2 (upd (eI (rI S1 a_1 (upd (eI S1 a_1) (nI G.n).toNatClampNeg (-1 : Int32))) a_2) (nI G.n).toNatClampNeg (-1 : Int32))) 1315 g) fun a_3 => isO (rI (rI S1 a_1 (upd (eI S1 a_1) (nI G.n).toNatClampNeg (-1 : Int32))) a_2 (upd (eI (rI S1 a_1 (upd (eI S1 a_1) (nI G.n).toNatClampNeg (-1 : Int32))) a_2) (nI G.n).toNatClampNeg (-1 : Int32))) 17 a_3 ∧ inR (rI (rI S1 a_1 (upd (eI S1 a_1) (nI G.n).toNatClampNeg (-1 : Int32))) a_2 (upd (eI (rI S1 a_1 (upd (eI S1 a_1) (nI G.n).toNatClampNeg (-1 : Int32))) a_2) (nI G.n).toNatClampNeg (-1 : Int32))) a_3 (nI G.n) ∧ (isO (rI (rI (rI S1 a_1 (upd (eI S1 a_1) (nI G.n).toNatClampNeg (-1 : Int32))) a_2 (upd (eI (rI S1 a_1 (upd (eI S1 a_1) (nI G.n).toNatClampNeg (-1 : Int32))) a_2) (nI G.n).toNatClampNeg (-1 : Int32))) a_3 (upd (eI (rI (rI S1 a_1 (upd (eI S1 a_1) (nI G.n).toNatClampNeg (-1 : Int32))) a_2 (upd (eI (rI S1 a_1 (upd (eI S1 a_1) (nI G.n).toNatClampNeg (-1 : Int32))) a_2) (nI G.n).toNatClampNeg (-1 : Int32))) a_3) (nI G.n).toNatClampNeg (-1 : Int32))) 13 g ∧ (pa (mR (rI (rI (rI S1 a_1 (upd (eI S1 a_1) (nI G.n).toNatClampNeg (-1 : Int32))) a_2 (upd (eI (rI S1 a_1 (upd (eI S1 a_1) (nI G.n).toNatClampNeg (-1 : Int32))) a_2) (nI G.n).toNatClampNeg (-1 : Int32))) a_3 (upd (eI (rI (rI S1 a_1 (upd (eI S1 a_1) (nI G.n).toNatClampNeg (-1 : Int32))) a_2 (upd (eI (rI S1 a_1 (upd (eI S1 a_1) (nI G.n).toNatClampNeg (-1 : Int32))) a_2) (nI G.n).toNatClampNeg (-1 : Int32))) a_3) (nI G.n).toNatClampNeg (-1 : Int32))) 1313 g) fun a_4 => isO (rI (rI (rI S1 a_1 (upd (eI S1 a_1) (nI G.n).toNatClampNeg (-1 : Int32))) a_2 (upd (eI (rI S1 a_1 (upd (eI S1 a_1) (nI G.n).toNatClampNeg (-1 : Int32))) a_2) (nI G.n).toNatClampNeg (-1 : Int32))) a_3 (upd (eI (rI (rI S1 a_1 (upd (eI S1 a_1) (nI G.n).toNatClampNeg (-1 : Int32))) a_2 (upd (eI (rI S1 a_1 (upd (eI S1 a_1) (nI G.n).toNatClampNeg (-1 : Int32))) a_2) (nI G.n).toNatClampNeg (-1 : Int32))) a_3) (nI G.n).toNatClampNeg (-1 : Int32))) 17 a_4 ∧ inR (rI (rI (rI S1 a_1 (upd (eI S1 a_1) (nI G.n).toNatClampNeg (-1 : Int32))) a_2 (upd (eI (rI S1 a_1 (upd (eI S1 a_1) (nI G.n).toNatClampNeg (-1 : Int32))) a_2) (nI G.n).toNatClampNeg (-1 : Int32))) a_3 (upd (eI (rI (rI S1 a_1 (upd (eI S1 a_1) (nI G.n).toNatClampNeg (-1 : Int32))) a_2 (upd (eI (rI S1 a_1 (upd (eI S1 a_1) (nI G.n).toNatClampNeg (-1 : Int32))) a_2) (nI G.n).toNatClampNeg (-1 : Int32))) a_3) (nI G.n).toNatClampNeg (-1 : Int32))) a_4 (nI G.n) ∧ (([] : List MV) = [] ∧ mret (some .int) (sp_rad g a r o F i y G T W s pr) [.inr (.inr (some g)), .inl (nI a), .inr (.inr (some r)), .inl (nI o)] S (some (.inl (nI G.n))) (rI (rI (rI (rI S1 a_1 (upd (eI S1 a_1) (nI G.n).toNatClampNeg (-1 : Int32))) a_2 (upd (eI (rI S1 a_1 (upd (eI S1 a_1) (nI G.n).toNatClampNeg (-1 : Int32))) a_2) (nI G.n).toNatClampNeg (-1 : Int32))) a_3 (upd (eI (rI (rI S1 a_1 (upd (eI S1 a_1) (nI G.n).toNatClampNeg (-1 : Int32))) a_2 (upd (eI (rI S1 a_1 (upd (eI S1 a_1) (nI G.n).toNatClampNeg (-1 : Int32))) a_2) (nI G.n).toNatClampNeg (-1 : Int32))) a_3) (nI G.n).toNatClampNeg (-1 : Int32))) a_4 (upd (eI (rI (rI (rI S1 a_1 (upd (eI S1 a_1) (nI G.n).toNatClampNeg (-1 : Int32))) a_2 (upd (eI (rI S1 a_1 (upd (eI S1 a_1) (nI G.n).toNatClampNeg (-1 : Int32))) a_2) (nI G.n).toNatClampNeg (-1 : Int32))) a_3 (upd (eI (rI (rI S1 a_1 (upd (eI S1 a_1) (nI G.n).toNatClampNeg (-1 : Int32))) a_2 (upd (eI (rI S1 a_1 (upd (eI S1 a_1) (nI G.n).toNatClampNeg (-1 : Int32))) a_2) (nI G.n).toNatClampNeg (-1 : Int32))) a_3) (nI G.n).toNatClampNeg (-1 : Int32))) a_4) (nI G.n).toNatClampNeg (-1 : Int32))) (ad1 G s) (ad2 G s))))))))))) ∧ (¬ (16 : Int32) ≤ (nI j) → (isO S1 13 g ∧ (isO S1 19 r ∧ inR S1 r ((nI o) + (nI j)) ∧ (pa (mR S1 1308 g) fun a_5 => isO S1 19 a_5 ∧ inR S1 a_5 (((16 : Int32) * (nI G.n)) + (nI j)) ∧ (∃ k1, k1 < k ∧ I_ad3 g r o F i y G T a s W S k1 [(0, .inr (.inr (some g))), (2, .inr (.inr (some r))), (3, .inl (nI o)), (5, .inl (nI G.n)), (6, .inl ((nI j) + (1 : Int32)))] [] (rI S1 a_5 (upd (eI S1 a_5) (((16 : Int32) * (nI G.n)) + (nI j)).toNatClampNeg ((eI S1 r ((nI o) + (nI j)).toNatClampNeg).toInt16.toInt32))) (ad1 G s) (ad2 G s)))))))
      obtain ⟨rfl, h, hF, hi, hst, hr, ha, hn, hs, hok, hT, hD⟩ := hp
      obtain ⟨hm, hFO, hFb, hK, hy, hfa, hz1, hz2, h26⟩ := hM
      have hmm : G.m ≤ 16 := h.nm.2
      obtain ⟨hs16, hsm⟩ := raP.s16 (T := T) (W := W) (pr := pr) hmm hs
      have cG : (nI G.n).toNatClampNeg = G.n := nI_clamp (by omega)
      have hF1 : ∀ k, rwK k → ((3 ≤ k ∧ k ≤ 21) ∨ (100 ≤ k ∧ k < 116)) → gO F i (y' k) ∨ y' k ∉ mL S := fun k hk hk9 => by
        by_cases c : y' k ∈ mL S
        · exact Or.inl ⟨k, by rw [← hFb _ c]; exact hR.role hk, Or.inr hk9⟩
        · exact Or.inr c
      have kp : ∀ {S2 : MM} {k : Nat} {f : Nat → Int32}, rwK k → ((3 ≤ k ∧ k ≤ 21) ∨ (100 ≤ k ∧ k < 116)) → Keep (gO F i) S S2 → Keep (gO F i) S (rI S2 (y' k) f) := fun {S2 k f} hk hk9 h9 => Keep.trN h9 (Keep.rI (P := fun b => b = y' k) Keep.rf rfl) (fun b hb e => (hF1 k hk hk9).elim (fun z => e ▸ z) (fun z => absurd hb (e ▸ z)))
      have w8 : rwK 8 := Or.inl (by decide)
      have w13 : rwK 13 := Or.inl (by decide)
      have w14 : rwK 14 := Or.inl (by decide)
      have w15 : rwK 15 := Or.inl (by decide)
      have w20 : rwK 20 := Or.inl (by decide)
      rw [← hy 0 (by decide)]
      refine if_le (a := 16) (b := j) (by decide) (by omega) (fun w => ?_) (fun w => ?_)
      · have r13 := hR.r (k := 13) (by decide)
        have r14 := hR.r (k := 14) (by decide)
        have r15 := hR.r (k := 15) (by decide)
        have r20 := hR.r (k := 20) (by decide)
        have nl : ∀ k, (k < 100) → k ≠ 4 → k ≠ 8 → (updF (updF (updF (adF G s fe) (100 + s) (upd fa (G.cn s) (nI G.n))) 4 (upd (fe 4) s (nI (G.cn s + 1)))) 8 f8) k = adF G s fe k := fun k hk k4 k8 => by
          unfold updF
          rw [if_neg k8, if_neg k4, if_neg (by omega)]
        have h1 := hR.wr w20 cG (-1)
        have h2 := h1.wr w14 cG (-1)
        have h3 := h2.wr w15 cG (-1)
        have h4 := h3.wr w13 cG (-1)
        have n0 := (eGr_n G s a).1
        have c0 := eGr_cn G s a
        refine ⟨hR.1.1, pa_i r20.1 ⟨r20.2.1, inRn r20.2.2 (show G.n < 8192 by omega) (by decide), hR.1.1, pa_i r14.1 ⟨r14.2.1, inRn r14.2.2 (show G.n < 8192 by omega) (by decide), hR.1.1, pa_i r15.1 ⟨r15.2.1, inRn r15.2.2 (show G.n < 8192 by omega) (by decide), hR.1.1, pa_i r13.1 ⟨r13.2.1, inRn r13.2.2 (show G.n < 8192 by omega) (by decide), rfl, trivial, ⟨_, rfl, rfl, F', y', h4.rg (RGm.pnd hm hsm (by rw [n0]; exact hn) hok (by rw [n0]; exact hT) ?_ ?_ ?_ ?_ ?_ ?_ ?_ ?_ ?_ ?_ ?_ ?_ ?_ ?_ ?_ ?_ ?_ ?_), hFO, hFb, ?_, hy, ?_, by rw [← hy 0 (by decide)]; exact (h4.f 26).trans (h26.trans (by rw [hy 0 (by decide)]))⟩, Nat.le_refl _, Nat.le_refl _⟩⟩⟩⟩⟩
        · rw [n0]; unfold dls; rw [n0, (eGr_n G s a).2]; exact hD
        · rw [n0]; rfl
        · exact fun k hk => if_neg hk
        · rw [c0]; rfl
        · exact (nl 6 (by decide) (by decide) (by decide)).trans (by rw [n0]; rfl)
        · exact (nl 7 (by decide) (by decide) (by decide)).trans (by rw [n0, c0]; rfl)
        · rw [n0]; exact h8
        · rw [n0]; exact fun t ht => hw t (by omega)
        · rw [n0]; exact congrArg (fun f => upd f G.n (-1)) (nl 13 (by decide) (by decide) (by decide))
        · rw [n0]; exact congrArg (fun f => upd f G.n (-1)) (nl 14 (by decide) (by decide) (by decide))
        · rw [n0]; exact congrArg (fun f => upd f G.n (-1)) (nl 15 (by decide) (by decide) (by decide))
        · rw [n0]; exact congrArg (fun f => upd f G.n (-1)) (nl 20 (by decide) (by decide) (by decide))
        · rw [c0]
          intro j9 hj9
          unfold updF
          rw [if_neg (by omega), if_neg (by omega), if_neg (by omega), if_neg (by omega), if_neg (by omega), if_neg (by omega), if_pos rfl, upd, if_neg (by omega)]
          exact hfa j9 hj9
        · rw [c0, n0]
          unfold updF
          rw [if_neg (by omega), if_neg (by omega), if_neg (by omega), if_neg (by omega), if_neg (by omega), if_neg (by omega), if_pos rfl, upd, if_pos rfl]
        · intro t ht hts
          refine Eq.trans ?_ (adF_100 (G := G) (s := s))
          unfold updF
          rw [if_neg (by omega), if_neg (by omega), if_neg (by omega), if_neg (by omega), if_neg (by omega), if_neg (by omega), if_neg (by omega)]
        · intro k hk
          rcases hk with rfl | rfl | rfl | rfl | rfl | rfl | rfl
          · exact nl 3 (by decide) (by decide) (by decide)
          · exact nl 9 (by decide) (by decide) (by decide)
          · exact nl 10 (by decide) (by decide) (by decide)
          · exact nl 11 (by decide) (by decide) (by decide)
          · exact nl 18 (by decide) (by decide) (by decide)
          · exact nl 19 (by decide) (by decide) (by decide)
          · exact nl 21 (by decide) (by decide) (by decide)
        · rw [c0]; exact hz1
        · exact hz2
        · exact kp w13 (Or.inl (by decide)) (kp w15 (Or.inl (by decide)) (kp w14 (Or.inl (by decide)) (kp w20 (Or.inl (by decide)) hK)))
        · rw [← hy 13 (by decide), h4.e w13]
          exact if_pos rfl
      · have hst1 : StR S1 r o W := by
          obtain ⟨t1, t2, t3, t4⟩ := hst
          have kr := hK.2.1 r t1.1 (fun z => hr z.own)
          refine ⟨hK.isO t1, by rw [(hK.1 r t1.1).2.2]; exact t2, by rw [(hK.1 r t1.1).2.2]; exact t3, fun s hs => by rw [kr.2.2.2.1]; exact t4 s hs⟩
        obtain ⟨u1, u2⟩ := hst1.el w
        have r8 := hR.r (k := 8) (by decide)
        have ei : (16 : Int32) * nI G.n + nI j = nI (16 * G.n + j) := by rw [nI_mul16, nI_add]
        have cl : (nI (16 * G.n + j)).toNatClampNeg = 16 * G.n + j := nI_clamp (by omega)
        have h1 := hR.wr w8 cl (nI (W j))
        have hW8 : W j ≤ 8192 := (hst.2.2.2 j w).2
        rw [ei, u1, sh16 (by omega)]
        refine ⟨hR.1.1, hst1.1, u2, pa_i r8.1 ⟨r8.2.1, inRn r8.2.2 (show 16 * G.n + j < 131072 by omega) (by decide), k - 1, by omega, j + 1, F', y', fi, fe, fz, fa, fz', upd f8 (16 * G.n + j) (nI (W j)), by omega, ⟨hm, hFO, hFb, kp w8 (Or.inl (by decide)) hK, hy, hfa, hz1, hz2, h26⟩, h1.cg (fun k9 => ?_), fun n hn9 => ?_, fun t ht => ?_, by rw [nI_1], rfl, rfl, rfl⟩⟩
        · unfold updF
          by_cases c8 : k9 = 8
          · rw [if_pos c8, if_pos c8, if_pos rfl]
          · rw [if_neg c8, if_neg c8, if_neg c8]
        · rw [upd, if_neg (by omega)]; exact h8 n hn9
        · rw [upd]
          by_cases c : t = j
          · rw [if_pos (by omega), c]
          · rw [if_neg (by omega)]; exact hw t (by omega)
theorem u_rad (l : Launch) : Us l yX12_add cX12_add 7 (some .int) 2 54 13 T_rad := by
  intro Rc Rs av S cs sl K Kx h
  unfold T_rad at h
  split at h
  · rename_i g_o a_v r_o o_v
    obtain ⟨g, rfl, h_1⟩ := pa_of h
    obtain ⟨r, rfl, h_2⟩ := pa_of h_1
    obtain ⟨a, rfl, h_3⟩ := h_2
    obtain ⟨o, rfl, h_4⟩ := h_3
    obtain ⟨F, i, y, G, T, W, s, pr, hp, hc, hs, hk⟩ := h_4
    refine ⟨(sp_rad g a r o F i y G T W s pr), c_rad l g a r o F i y G T W s pr, fun _ _ h9 => ⟨_, _, h9.1, (h9.2.1 ▸ (h9.2.2.1 0).1)⟩, ⟨rfl, hp⟩, hc, hs, fun v9 S' h8 => by
      obtain ⟨v8, h7, h8⟩ := h8
      cases h7
      exact hk _ _ h8, fun _ _ q => q.elim⟩
  · exact h.elim
