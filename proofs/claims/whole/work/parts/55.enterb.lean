/-! ===== Graph.enter: the walk ===== -/
/-- the agent is there -/
def I_e1 (g a r n : Nat) (ch : Int32) (ix : Nat) (F : Nat → Nat × Nat) (i : Nat) (A : Nat → Nat) (X : GX) (G : Gr) (T : Tr) (H : List Nat) (W : Nat → Nat) (P : List Nat) (s : Nat) (S : MM) (t : Nat) : KT := fun lo st S1 cs sl => t = 3 ∧ lo = [(0, .inr (.inr (some g))), (1, .inl (nI a)), (2, .inr (.inr (some r))), (3, .inl (nI n)), (4, .inl ch), (5, .inl (nI ix))] ∧ st = [] ∧ (∃ F1 A1 X1, GI S1 F1 i A1 X1 (eGr G s a) T H W ∧ FO S1 F1 ∧ (∀ b, b ∈ mL S → F1 b = F b) ∧ Keep (fun b => (F b).1 = i) S S1 ∧ (∀ j, j < 20 → A1 j = A j) ∧ X1.ad = X.ad ∧ KRk S S1) ∧ cs = (if s < G.m then 0 else 2) ∧ sl = (if s < G.m then 0 else 6)
/-- the counts of ancestors are there -/
def I_e2 (g a r n : Nat) (ch : Int32) (ix : Nat) (F : Nat → Nat × Nat) (i : Nat) (A : Nat → Nat) (X : GX) (G : Gr) (T : Tr) (H : List Nat) (W : Nat → Nat) (P : List Nat) (s : Nat) (S : MM) (t : Nat) : KT := fun lo st S1 cs sl => ∃ ga bq, t = 2 ∧ lo = [(0, .inr (.inr (some g))), (2, .inr (.inr (some r))), (3, .inl (nI n)), (4, .inl ch), (5, .inl (nI ix)), (6, .inr (.inr (some ga))), (8, .inr (.inr (some bq)))] ∧ st = [] ∧ (∃ F1 A1 X1, GI S1 F1 i A1 X1 (eGr G s a) T H W ∧ FO S1 F1 ∧ (∀ b, b ∈ mL S → F1 b = F b) ∧ Keep (fun b => (F b).1 = i) S S1 ∧ (∀ j, j < 20 → A1 j = A j) ∧ X1.ad = X.ad ∧ KRk S S1 ∧ ga = X1.aa s ∧ F1 bq = (i, 12) ∧ isO S1 17 bq ∧ mN S1 bq = 16 ∧ ∀ t, t < 16 → t ≠ s → eI S1 bq t = nI (G.jn P t)) ∧ cs ≤ (if s < G.m then 0 else 2) + 1 ∧ sl ≤ (if s < G.m then 0 else 6) + 16
/-- the event hangs, or has struck -/
def I_e3 (g a r n : Nat) (ch : Int32) (ix : Nat) (F : Nat → Nat × Nat) (i : Nat) (A : Nat → Nat) (X : GX) (G : Gr) (T : Tr) (H : List Nat) (W : Nat → Nat) (P : List Nat) (oc : Option Nat) (s : Nat) (S : MM) (t : Nat) : KT := fun lo st S1 cs sl => ∃ ga q, t = 1 ∧ lo = [(0, .inr (.inr (some g))), (6, .inr (.inr (some ga))), (10, .inr (.inr (some q)))] ∧ st = [] ∧ (∃ F1 A1 X1 e T', GX8 S1 F1 i A1 X1 ((eGr G s a).push e (eGr G s a).m (eGr G s a).ag) T' (wNx e) W (giD A1) (giC A1 (eGr G s a)) (giL X1 (eGr G s a) H) ∧ FO S1 F1 ∧ (∀ b, b ∈ mL S → F1 b = F b) ∧ Keep (fun b => (F b).1 = i) S S1 ∧ (∀ j, j < 20 → A1 j = A j) ∧ (∀ k, k < G.n → X1.ad k = X.ad k) ∧ KRk S S1 ∧ ga = X1.aa s ∧ q = X1.ad G.n ∧ HdS (eGr G s a) H ∧ (A1 7 = 0 ∨ A1 7 = 10 ∨ A1 7 = 15 ∨ A1 7 = 22) ∧ e.sl = s ∧ e.nu = G.cn s ∧ e.pa = G.jn P ∧ SrtK (eGr G s a) P e.pr P.length ∧ e.ch = oc ∧ e.ix = ix ∧ EvIn (eGr G s a) e ∧ GT ((eGr G s a).push e (eGr G s a).m (eGr G s a).ag) T' ∧ ((oc ≠ none ∧ e.tg = 0 ∧ T.ins T' (ivW (eGr G s a) e.pa) (snW (eGr G s a) e.pa) (lessK ((eGr G s a).push e (eGr G s a).m (eGr G s a).ag) G.n) (G.n + 1) ix) ∨ (oc = none ∧ T' = T ∧ DelT (eGr G s a) T e))) ∧ cs ≤ (if s < G.m then 0 else 2) + 3 ∧ sl ≤ (if s < G.m then 0 else 6) + 48
def T_gen : TR := fun Rc Rs av S cs sl K _Kx => match av with
  | [.inr (.inr g_o), .inl a_v, .inr (.inr r_o), .inl n_v, .inl ch, .inl ix_v] => pa g_o fun g => (pa r_o fun r => (∃ (a : Nat), a_v = nI a ∧ (∃ (n : Nat), n_v = nI n ∧ (∃ (ix : Nat), ix_v = nI ix ∧ (∃ (F : Nat → Nat × Nat) (i : Nat) (A : Nat → Nat) (X : GX) (G : Gr) (T : Tr) (H : List Nat) (W : Nat → Nat) (P : List Nat) (oc : Option Nat) (s : Nat), (g = A 0 ∧ enR S F i A X G T H W r P a oc ix s ∧ n = P.length ∧ ch = chI oc) ∧ cs + (enC G s) ≤ Rc ∧ sl + (enZ G s) ≤ Rs ∧ (∀ (S' : MM), (enQ S S' F i A X G T a P oc ix s) → K none S' (cs + (enC G s)) (sl + (enZ G s))))))))
  | _ => False
def sp_gen (g : Nat) (a : Nat) (r : Nat) (n : Nat) (ch : Int32) (ix : Nat) (F : Nat → Nat × Nat) (i : Nat) (A : Nat → Nat) (X : GX) (G : Gr) (T : Tr) (H : List Nat) (W : Nat → Nat) (P : List Nat) (oc : Option Nat) (s : Nat) : Sp := (fun av S => av = [.inr (.inr (some g)), .inl (nI a), .inr (.inr (some r)), .inl (nI n), .inl ch, .inl (nI ix)] ∧ (g = A 0 ∧ enR S F i A X G T H W r P a oc ix s ∧ n = P.length ∧ ch = chI oc), fun _ S => enC G s, fun _ S => enZ G s, fun _ S rv S' => rv = none ∧ (enQ S S' F i A X G T a P oc ix s), fun _ _ _ _ => False)
def tX5_enter : CD := [(0, .aload_n 0), (1, .getfield 32), (4, .iload_n 1), (5, .aaload), (6, .ifnonnull 31), (9, .aload_n 0), (10, .getfield 32), (13, .iload_n 1), (14, .new 11), (17, .dup), (18, .iload_n 1), (19, .aload_n 0), (20, .getfield 36), (23, .invokespecial 13), (26, .aastore), (27, .aload_n 0), (28, .dup), (29, .getfield 36), (32, .iconst 1), (33, .iadd), (34, .putfield 36), (37, .aload_n 0), (38, .getfield 32), (41, .iload_n 1), (42, .aaload), (43, .astore 6), (45, .iload_n 3), (46, .iconst 1), (47, .if_icmp .ne 18), (50, .aload_n 2), (51, .iconst 0), (52, .aaload), (53, .getfield 125), (56, .aload 6), (58, .if_acmp .ne 7), (61, .iconst 1), (62, .goto 4), (65, .iconst 0), (66, .istore 7), (68, .iload 7), (70, .ifCond .eq 12), (73, .aload_n 2), (74, .iconst 0), (75, .aaload), (76, .getfield 150), (79, .goto 13), (82, .aload_n 0), (83, .getfield 46), (86, .invokevirtual 153), (89, .checkcast 154), (92, .astore 8), (94, .aload_n 2), (95, .iload_n 3), (96, .invokestatic 158), (99, .astore 9), (101, .new 9), (104, .dup), (105, .aload 6), (107, .aload 6), (109, .getfield 65), (112, .invokevirtual 68), (115, .aload_n 0), (116, .getfield 28), (119, .invokevirtual 68), (122, .aload 9), (124, .aload 8), (126, .iload 4), (128, .iload 5), (130, .invokespecial 16), (133, .astore 10), (135, .aload 10), (137, .invokevirtual 135), (140, .ifCond .eq 12), (143, .aload_n 0), (144, .aload 10), (146, .invokevirtual 162), (149, .goto 9), (152, .aload_n 0), (153, .aload 10), (155, .invokevirtual 165), (158, .aload_n 0), (159, .getfield 28), (162, .aload 10), (164, .invokevirtual 168), (167, .pop), (168, .aload 6), (170, .getfield 65), (173, .aload 10), (175, .invokevirtual 168), (178, .pop), (179, .aload_n 0), (180, .getfield 46), (183, .aload 6), (185, .getfield 98), (188, .aload 10), (190, .getfield 129), (193, .iconst 1), (194, .iadd), (195, .iastore), (196, .aload_n 0), (197, .aload 10), (199, .invokevirtual 172), (202, .return_)]
set_option maxRecDepth 100000 in
theorem kX5_enter : chk cX5_enter tX5_enter = true := by decide +kernel
theorem vX5_enter_13 : ∀ w ∈ ([.instanceMethod yX0_init, .initialized yX0_init.cls, .code yX0_init cX0_init 3 none] : List Cond), w ∈ lw_good := List.forall_mem_cons.mpr ⟨mgd 233 (by decide +kernel) (by decide +kernel), List.forall_mem_cons.mpr ⟨mgd 127 (by decide +kernel) (by decide +kernel), List.forall_mem_cons.mpr ⟨mgd 234 (by decide +kernel) (by decide +kernel), fun _ h => absurd h List.not_mem_nil⟩⟩⟩
theorem vX5_enter_153 : ∀ w ∈ ([.methodLink RX5 153 ⟨"[I", "clone", "()Ljava/lang/Object;"⟩, .sameMethod "[I" "java/lang/Object" "clone" "()Ljava/lang/Object;", .native clN, .instanceMethod clN, .selects "[I" ⟨"[I", "clone", "()Ljava/lang/Object;"⟩ clN] : List Cond), w ∈ lw_good := List.forall_mem_cons.mpr ⟨mgd 902 (by decide +kernel) (by decide +kernel), List.forall_mem_cons.mpr ⟨mgd 903 (by decide +kernel) (by decide +kernel), List.forall_mem_cons.mpr ⟨mgd 784 (by decide +kernel) (by decide +kernel), List.forall_mem_cons.mpr ⟨mgd 785 (by decide +kernel) (by decide +kernel), List.forall_mem_cons.mpr ⟨mgd 904 (by decide +kernel) (by decide +kernel), fun _ h => absurd h List.not_mem_nil⟩⟩⟩⟩⟩
theorem vX5_enter_158 : ∀ w ∈ ([.methodLink RX5 158 yX5_sorted, .static yX5_sorted, .initialized yX5_sorted.cls, .code yX5_sorted cX5_sorted 5 (some (.array (.object "WeaveText$Event")))] : List Cond), w ∈ lw_good := List.forall_mem_cons.mpr ⟨mgd 907 (by decide +kernel) (by decide +kernel), List.forall_mem_cons.mpr ⟨mgd 908 (by decide +kernel) (by decide +kernel), List.forall_mem_cons.mpr ⟨mgd 125 (by decide +kernel) (by decide +kernel), List.forall_mem_cons.mpr ⟨mgd 909 (by decide +kernel) (by decide +kernel), fun _ h => absurd h List.not_mem_nil⟩⟩⟩⟩
theorem vX5_enter_68 : ∀ w ∈ ([.methodLink RX5 68 yJx4a65c_size_8abf5, .instanceMethod yJx4a65c_size_8abf5, .selects yJx4a65c_size_8abf5.cls yJx4a65c_size_8abf5 yJx4a65c_size_8abf5, .initialized yJx4a65c_size_8abf5.cls, .code yJx4a65c_size_8abf5 cJx4a65c_size_8abf5 1 (some .int)] : List Cond), w ∈ lw_good := List.forall_mem_cons.mpr ⟨mgd 672 (by decide +kernel) (by decide +kernel), List.forall_mem_cons.mpr ⟨mgd 673 (by decide +kernel) (by decide +kernel), List.forall_mem_cons.mpr ⟨mgd 674 (by decide +kernel) (by decide +kernel), List.forall_mem_cons.mpr ⟨mgd 130 (by decide +kernel) (by decide +kernel), List.forall_mem_cons.mpr ⟨mgd 675 (by decide +kernel) (by decide +kernel), fun _ h => absurd h List.not_mem_nil⟩⟩⟩⟩⟩
theorem vX5_enter_16 : ∀ w ∈ ([.instanceMethod yX4_init, .initialized yX4_init.cls, .code yX4_init cX4_init 8 none] : List Cond), w ∈ lw_good := List.forall_mem_cons.mpr ⟨mgd 280 (by decide +kernel) (by decide +kernel), List.forall_mem_cons.mpr ⟨mgd 126 (by decide +kernel) (by decide +kernel), List.forall_mem_cons.mpr ⟨mgd 281 (by decide +kernel) (by decide +kernel), fun _ h => absurd h List.not_mem_nil⟩⟩⟩
theorem vX5_enter_135 : ∀ w ∈ ([.methodLink RX5 135 yX4_inserts, .instanceMethod yX4_inserts, .selects yX4_inserts.cls yX4_inserts yX4_inserts, .initialized yX4_inserts.cls, .code yX4_inserts cX4_inserts 1 (some .boolean)] : List Cond), w ∈ lw_good := List.forall_mem_cons.mpr ⟨mgd 690 (by decide +kernel) (by decide +kernel), List.forall_mem_cons.mpr ⟨mgd 691 (by decide +kernel) (by decide +kernel), List.forall_mem_cons.mpr ⟨mgd 692 (by decide +kernel) (by decide +kernel), List.forall_mem_cons.mpr ⟨mgd 126 (by decide +kernel) (by decide +kernel), List.forall_mem_cons.mpr ⟨mgd 693 (by decide +kernel) (by decide +kernel), fun _ h => absurd h List.not_mem_nil⟩⟩⟩⟩⟩
theorem vX5_enter_162 : ∀ w ∈ ([.methodLink RX5 162 yX5_hang, .instanceMethod yX5_hang, .selects yX5_hang.cls yX5_hang yX5_hang, .initialized yX5_hang.cls, .code yX5_hang cX5_hang 6 none] : List Cond), w ∈ lw_good := List.forall_mem_cons.mpr ⟨mgd 914 (by decide +kernel) (by decide +kernel), List.forall_mem_cons.mpr ⟨mgd 916 (by decide +kernel) (by decide +kernel), List.forall_mem_cons.mpr ⟨mgd 6 (by decide +kernel) (by decide +kernel), List.forall_mem_cons.mpr ⟨mgd 125 (by decide +kernel) (by decide +kernel), List.forall_mem_cons.mpr ⟨mgd 917 (by decide +kernel) (by decide +kernel), fun _ h => absurd h List.not_mem_nil⟩⟩⟩⟩⟩
theorem vX5_enter_165 : ∀ w ∈ ([.methodLink RX5 165 yX5_strike, .instanceMethod yX5_strike, .selects yX5_strike.cls yX5_strike yX5_strike, .initialized yX5_strike.cls, .code yX5_strike cX5_strike 3 none] : List Cond), w ∈ lw_good := List.forall_mem_cons.mpr ⟨mgd 940 (by decide +kernel) (by decide +kernel), List.forall_mem_cons.mpr ⟨mgd 942 (by decide +kernel) (by decide +kernel), List.forall_mem_cons.mpr ⟨mgd 8 (by decide +kernel) (by decide +kernel), List.forall_mem_cons.mpr ⟨mgd 125 (by decide +kernel) (by decide +kernel), List.forall_mem_cons.mpr ⟨mgd 943 (by decide +kernel) (by decide +kernel), fun _ h => absurd h List.not_mem_nil⟩⟩⟩⟩⟩
theorem vX5_enter_168 : ∀ w ∈ ([.methodLink RX5 168 yJx4a65c_add_9ea2d, .instanceMethod yJx4a65c_add_9ea2d, .selects yJx4a65c_add_9ea2d.cls yJx4a65c_add_9ea2d yJx4a65c_add_9ea2d, .initialized yJx4a65c_add_9ea2d.cls, .code yJx4a65c_add_9ea2d cJx4a65c_add_9ea2d 2 (some .boolean)] : List Cond), w ∈ lw_good := List.forall_mem_cons.mpr ⟨mgd 948 (by decide +kernel) (by decide +kernel), List.forall_mem_cons.mpr ⟨mgd 949 (by decide +kernel) (by decide +kernel), List.forall_mem_cons.mpr ⟨mgd 950 (by decide +kernel) (by decide +kernel), List.forall_mem_cons.mpr ⟨mgd 130 (by decide +kernel) (by decide +kernel), List.forall_mem_cons.mpr ⟨mgd 951 (by decide +kernel) (by decide +kernel), fun _ h => absurd h List.not_mem_nil⟩⟩⟩⟩⟩
theorem vX5_enter_172 : ∀ w ∈ ([.methodLink RX5 172 yX5_renewHeads, .instanceMethod yX5_renewHeads, .selects yX5_renewHeads.cls yX5_renewHeads yX5_renewHeads, .initialized yX5_renewHeads.cls, .code yX5_renewHeads cX5_renewHeads 3 none] : List Cond), w ∈ lw_good := List.forall_mem_cons.mpr ⟨mgd 1007 (by decide +kernel) (by decide +kernel), List.forall_mem_cons.mpr ⟨mgd 1009 (by decide +kernel) (by decide +kernel), List.forall_mem_cons.mpr ⟨mgd 12 (by decide +kernel) (by decide +kernel), List.forall_mem_cons.mpr ⟨mgd 125 (by decide +kernel) (by decide +kernel), List.forall_mem_cons.mpr ⟨mgd 1010 (by decide +kernel) (by decide +kernel), fun _ h => absurd h List.not_mem_nil⟩⟩⟩⟩⟩
set_option maxRecDepth 100000 in
set_option maxHeartbeats 2000000 in
theorem c_gen (l : Launch) : ∀ (g : Nat) (a : Nat) (r : Nat) (n : Nat) (ch : Int32) (ix : Nat) (F : Nat → Nat × Nat) (i : Nat) (A : Nat → Nat) (X : GX) (G : Gr) (T : Tr) (H : List Nat) (W : Nat → Nat) (P : List Nat) (oc : Option Nat) (s : Nat), Ct l yX5_enter cX5_enter 11 none 7 165 (sp_gen g a r n ch ix F i A X G T H W P oc s) := by
  intro g a r n ch ix F i A X G T H W P oc s
  refine Ct.of (fX5, nX5, aX5, iX5, lX5, [(13, 1, 3, 0, T_agini), (153, 0, 1, 3, T_clone), (158, 2, 2, 3, T_gso), (68, 0, 1, 1, T_alsz), (16, 1, 8, 0, T_eini2), (135, 0, 1, 1, T_ins), (162, 0, 2, 0, T_ghg), (165, 0, 2, 0, T_gst), (168, 0, 2, 1, T_aladd), (172, 0, 2, 0, T_grh)], qX5, gX5, []) false tX5_enter (fun _ S => look [(37, ([0,1,2,3,4,5], I_e1 g a r n ch ix F i A X G T H W P s S)), (94, ([0,2,3,4,5,6,8], I_e2 g a r n ch ix F i A X G T H W P s S)), (158, ([0,6,10], I_e3 g a r n ch ix F i A X G T H W P oc s S))]) (by decide) (by decide) kX5_enter ⟨_, _, rfl⟩ fX5_ok nX5_ok aX5_ok iX5_ok lX5_ok (fun p e R s m args below meth c Q D cy z r A C hR1 hR2 => List.forall_mem_cons.mpr ⟨cOK_use (fun _ _ _ _ _ _ _ _ h => let ⟨sp, h1, h2, h3⟩ := u_agini l _ _ _ _ _ _ _ _ h; ⟨sp, cOK_I C h1 vX5_enter_13 (Or.inl (mgd 232 (by decide +kernel) (by decide +kernel))) rfl ⟨by decide, by decide, by decide +kernel⟩ ⟨by rw [hR1]; decide, by rw [hR2]; decide⟩ h2, h3⟩), List.forall_mem_cons.mpr ⟨cOK_use (fun _ _ _ _ _ _ _ _ h => ⟨sp_clone, cOK_clone C vX5_enter_153 (mbd 905 (by decide +kernel) (by decide +kernel)) ⟨by rw [hR1]; decide, by rw [hR2]; decide⟩, T_clone_ok h⟩), List.forall_mem_cons.mpr ⟨cOK_use (fun _ _ _ _ _ _ _ _ h => let ⟨sp, h1, _, h3⟩ := u_gso l _ _ _ _ _ _ _ _ h; ⟨sp, cOK_S C h1 vX5_enter_158 ⟨by decide, by decide, by decide +kernel⟩ ⟨by rw [hR1]; decide, by rw [hR2]; decide⟩, h3⟩), List.forall_mem_cons.mpr ⟨cOK_use (fun _ _ _ _ _ _ _ _ h => let ⟨sp, h1, h2, h3⟩ := u_alsz l _ _ _ _ _ _ _ _ h; ⟨sp, cOK_V C h1 vX5_enter_68 ⟨by decide, by decide, by decide +kernel⟩ ⟨by rw [hR1]; decide, by rw [hR2]; decide⟩ (k := 0) (T := TJx4a65c) (N := 3) rfl (by decide) h2, h3⟩), List.forall_mem_cons.mpr ⟨cOK_use (fun _ _ _ _ _ _ _ _ h => let ⟨sp, h1, h2, h3⟩ := u_eini2 l _ _ _ _ _ _ _ _ h; ⟨sp, cOK_I C h1 vX5_enter_16 (Or.inl (mgd 279 (by decide +kernel) (by decide +kernel))) rfl ⟨by decide, by decide, by decide +kernel⟩ ⟨by rw [hR1]; decide, by rw [hR2]; decide⟩ h2, h3⟩), List.forall_mem_cons.mpr ⟨cOK_use (fun _ _ _ _ _ _ _ _ h => let ⟨sp, h1, h2, h3⟩ := u_ins l _ _ _ _ _ _ _ _ h; ⟨sp, cOK_V C h1 vX5_enter_135 ⟨by decide, by decide, by decide +kernel⟩ ⟨by rw [hR1]; decide, by rw [hR2]; decide⟩ (k := 5) (T := TX4) (N := 16) rfl (by decide) h2, h3⟩), List.forall_mem_cons.mpr ⟨cOK_use (fun _ _ _ _ _ _ _ _ h => let ⟨sp, h1, h2, h3⟩ := u_ghg l _ _ _ _ _ _ _ _ h; ⟨sp, cOK_V C h1 vX5_enter_162 ⟨by decide, by decide, by decide +kernel⟩ ⟨by rw [hR1]; decide, by rw [hR2]; decide⟩ (k := 6) (T := TX5) (N := 12) rfl (by decide) h2, h3⟩), List.forall_mem_cons.mpr ⟨cOK_use (fun _ _ _ _ _ _ _ _ h => let ⟨sp, h1, h2, h3⟩ := u_gst l _ _ _ _ _ _ _ _ h; ⟨sp, cOK_V C h1 vX5_enter_165 ⟨by decide, by decide, by decide +kernel⟩ ⟨by rw [hR1]; decide, by rw [hR2]; decide⟩ (k := 6) (T := TX5) (N := 12) rfl (by decide) h2, h3⟩), List.forall_mem_cons.mpr ⟨cOK_use (fun _ _ _ _ _ _ _ _ h => let ⟨sp, h1, h2, h3⟩ := u_aladd l _ _ _ _ _ _ _ _ h; ⟨sp, cOK_V C h1 vX5_enter_168 ⟨by decide, by decide, by decide +kernel⟩ ⟨by rw [hR1]; decide, by rw [hR2]; decide⟩ (k := 0) (T := TJx4a65c) (N := 3) rfl (by decide) h2, h3⟩), List.forall_mem_cons.mpr ⟨cOK_use (fun _ _ _ _ _ _ _ _ h => let ⟨sp, h1, h2, h3⟩ := u_grh l _ _ _ _ _ _ _ _ h; ⟨sp, cOK_V C h1 vX5_enter_172 ⟨by decide, by decide, by decide +kernel⟩ ⟨by rw [hR1]; decide, by rw [hR2]; decide⟩ (k := 6) (T := TX5) (N := 12) rfl (by decide) h2, h3⟩), fun _ h => absurd h List.not_mem_nil⟩⟩⟩⟩⟩⟩⟩⟩⟩⟩) qX5_ok gX5_ok rfl ?_ ?_
  · rintro _ S ⟨rfl, hp⟩
    refine ⟨Nat.le_of_ble_eq_true rfl, 300, ?_⟩
    show (isO S 6 g ∧ (pa (mR S 602 g) fun a_1 => a_1 ∈ mL S ∧ ¬ mK S a_1 < 21 ∧ mK S a_1 < 29 ∧ inR S a_1 (nI a) ∧ ((∀ w_2, (eR S a_1 (nI a).toNatClampNeg) = some w_2 → (∃ k1, I_e1 g a r n ch ix F i A X G T H W P s S k1 [(0, .inr (.inr (some g))), (1, .inl (nI a)), (2, .inr (.inr (some r))), (3, .inl (nI n)), (4, .inl ch), (5, .inl (nI ix))] [] S 0 0)) ∧ ((eR S a_1 (nI a).toNatClampNeg) = none → (isO S 6 g ∧ (0 + 1 ≤ enC G s ∧ 0 + 3 ≤ enZ G s ∧ ∀ q_3, q_3 ∉ mL S → (isO (nO S q_3 1) 6 g ∧ (1 = 1 ∧ ((isO (nO S q_3 1) 1 q_3) ∧ 0 + 1 + 1 ≤ enC G s ∧ 0 + 3 + 3 ≤ enZ G s ∧ (∀ (S_4 : MM), (∃ q, q ∉ mL (nO S q_3 1) ∧ S_4 = agS (nO S q_3 1) q_3 q (nI a) (mI (nO S q_3 1) 603 g)) → (pa (mR S 602 g) fun a_5 => a_5 ∈ mL S_4 ∧ ¬ mK S_4 a_5 < 21 ∧ mK S_4 a_5 < 29 ∧ inR S_4 a_5 (nI a) ∧ (∀ w_6, (some q_3) = some w_6 → w_6 ∈ mL S_4 ∧ (mK S_4 a_5 = 21 ∧ mK S_4 w_6 = 1 ∨ mK S_4 a_5 = 22 ∧ mK S_4 w_6 = 2 ∨ mK S_4 a_5 = 23 ∧ mK S_4 w_6 = 5 ∨ mK S_4 a_5 = 24 ∧ mK S_4 w_6 = 11 ∨ mK S_4 a_5 = 25 ∧ mK S_4 w_6 = 13 ∨ mK S_4 a_5 = 26 ∧ (mK S_4 w_6 = 4 ∨ mK S_4 w_6 = 5) ∨ mK S_4 a_5 = 27 ∧ mK S_4 w_6 = 16 ∨ mK S_4 a_5 = 28 ∧ mK S_4 w_6 = 17)) ∧ (isO (rR S_4 a_5 (va_up (eR S_4 a_5) (nI a).toNatClampNeg (some q_3))) 6 g ∧ (True ∧ (isO (rR S_4 a_5 (va_up (eR S_4 a_5) (nI a).toNatClampNeg (some q_3))) 6 g ∧ (∃ k1, I_e1 g a r n ch ix F i A X G T H W P s S k1 [(0, .inr (.inr (some g))), (1, .inl (nI a)), (2, .inr (.inr (some r))), (3, .inl (nI n)), (4, .inl ch), (5, .inl (nI ix))] [] (sI (rR S_4 a_5 (va_up (eR S_4 a_5) (nI a).toNatClampNeg (some q_3))) 603 g ((mI (rR S_4 a_5 (va_up (eR S_4 a_5) (nI a).toNatClampNeg (some q_3))) 603 g) + (1 : Int32))) (0 + 1 + 1) (0 + 3 + 3))))))))))))))))
    obtain ⟨rfl, ⟨hG, hF, hi, hRw, hr, hW, hE⟩, rfl, rfl⟩ := hp
    have h0 := (hG 0).1
    obtain ⟨c1, c2, c3, c4, c5, c6⟩ := hG 3
    have ha := hE.2.1
    have hsl := hE.2.2.2.2.2.2.1
    rw [nI_clamp (n := a) (by omega)]
    refine ⟨h0, pa_i c1 ⟨c2.1, by rw [c2.2]; decide, by rw [c2.2]; decide, vp_in_nI (by rw [c4]; exact ha) (by rw [c4]; decide), fun w hw => ?_, fun hw => ?_⟩⟩
    · rcases hsl with q | q
      · refine ⟨3, rfl, rfl, rfl, ⟨F, A, X, ?_, hF, fun _ _ => rfl, Keep.rf, fun _ _ => rfl, rfl, fun _ _ => rfl⟩, ?_, ?_⟩
        · rw [show eGr G s a = G from if_pos q.1]; exact hG
        · rw [if_pos q.1]
        · rw [if_pos q.1]
      · rw [c6 a ha q.2.2] at hw; cases hw
    · rcases hsl with q | ⟨rfl, qm, qn⟩
      · rw [← q.2, c5 s q.1] at hw; cases hw
      · have e1 : 6 ≤ enC G G.m := by unfold enC; rw [if_neg (by omega)]; omega
        have e2 : 6 ≤ enZ G G.m := by unfold enZ; rw [if_neg (by omega)]; omega
        refine ⟨h0, by omega, by omega, fun q hq => ⟨isO_nO h0 hq, rfl, isO_nO_self, by omega, by omega, fun S4 hS4 => ?_⟩⟩
        obtain ⟨q2, hq2, rfl⟩ := hS4
        have gq : A 0 ≠ q := fun z => hq (z ▸ h0.1)
        have gq2 : A 0 ≠ q2 := fun z => hq2 (List.mem_append_left _ (z ▸ h0.1))
        have g603 : mI (nO S q 1) 603 (A 0) = nI G.m := by rw [mI_nO, if_neg gq]; exact hG 4
        rw [g603]
        have k4 : Keep (fun b => b = q ∨ b = q2) S (agS (nO S q 1) q q2 (nI a) (nI G.m)) := by
          unfold agS
          exact Keep.sI (Keep.sI (Keep.sR (Keep.sR (Keep.sI ((Keep.rf.nO hq).nO hq2) (Or.inr rfl)) (Or.inr rfl)) (Or.inl rfl)) (Or.inl rfl)) (Or.inl rfl)
        have ar := k4.isO c2
        have arN := (k4.1 _ c2.1).2.2
        have oq : isO (agS (nO S q 1) q q2 (nI a) (nI G.m)) 1 q := by
          unfold agS
          exact isO_sI (isO_sI (isO_sR (isO_sR (isO_sI (isO_nO isO_nO_self hq2)))))
        have e9 : sI (rR (agS (nO S q 1) q q2 (nI a) (nI G.m)) (A 4) (va_up (eR (agS (nO S q 1) q q2 (nI a) (nI G.m)) (A 4)) a (some q))) 603 (A 0) (mI (rR (agS (nO S q 1) q q2 (nI a) (nI G.m)) (A 4) (va_up (eR (agS (nO S q 1) q q2 (nI a) (nI G.m)) (A 4)) a (some q))) 603 (A 0) + 1) = agM S (A 0) (A 4) q q2 G.m a := by
          have e8 : mI (agS (nO S q 1) q q2 (nI a) (nI G.m)) 603 (A 0) = nI G.m := by
            unfold agS
            rw [mI_sI, if_neg (fun z => absurd z.1 (by decide)), mI_sI, if_neg (fun z => absurd z.1 (by decide)), mI_sR, mI_sR, mI_sI, if_neg (fun z => absurd z.1 (by decide)), mI_nO, if_neg gq2, g603]
          have e7 : eR (agS (nO S q 1) q q2 (nI a) (nI G.m)) (A 4) = eR S (A 4) := by
            unfold agS
            rw [eR_sI, eR_sI, eR_sR, eR_sR, eR_sI, eR_nO, eR_nO]
          rw [mI_rR, e8, e7, nI_1]
          rfl
        refine pa_i c1 ⟨ar.1, by rw [ar.2]; decide, by rw [ar.2]; decide, (by rw [inR, arN, c4]; exact vp_in_nI ha (by decide)), (fun w hw => by cases hw; exact ⟨oq.1, Or.inl ⟨ar.2, oq.2⟩⟩), isO_rR (k4.isO h0), trivial, isO_rR (k4.isO h0), ?_⟩
        rw [e9]
        obtain ⟨z1, z2, z3, z4⟩ := hG.agn hF hi qm ha qn hq hq2
        refine ⟨3, rfl, rfl, rfl, ⟨agF F i G.m q q2, agA A G.m q2 (mZ S), agX X G.m q, ?_, z2, z4, z3, fun j hj => agA_o (by omega), rfl, KRk.ag hq hq2⟩, ?_, ?_⟩
        · rw [show eGr G G.m a = G.agn a from if_neg (by omega)]; exact z1
        · rw [if_neg (by omega)]
        · rw [if_neg (by omega)]
  · intro av S hpre pc I hI k lo st S1 cs sl h
    obtain ⟨rfl, hp⟩ := hpre
    have hm := look_in hI
    simp only [List.mem_cons, List.not_mem_nil, or_false] at hm
    rcases hm with hm | hm | hm
    · cases hm
      obtain ⟨rfl, rfl, rfl, ⟨F1, A1, X1, hG, hF, hf, hK, hA, hX, hR⟩, rfl, rfl⟩ := h
      refine ⟨300, ?_⟩
      show (isO S1 6 g ∧ (pa (mR S1 602 g) fun a_1 => a_1 ∈ mL S1 ∧ ¬ mK S1 a_1 < 21 ∧ mK S1 a_1 < 29 ∧ inR S1 a_1 (nI a) ∧ ((¬ (nI n) = (1 : Int32) → (((0 : Int32) = 0 → (isO S1 6 g ∧ (0 = 0 ∧ ((pa (mR S1 606 g) fun a_2 => ((isO S1 17 a_2) ∧ (if s < G.m then 0 else 2) + 1 ≤ enC G s ∧ (if s < G.m then 0 else 6) + (mN S1 a_2) ≤ enZ G s ∧ (∀ (x_4 : Option Nat) (S_3 : MM), (∃ q, q ∉ mL S1 ∧ x_4 = some q ∧ S_3 = rI (nA S1 q 17 (mN S1 a_2)) q (eI S1 a_2)) → ((∀ w_5, x_4 = some w_5 → isO S_3 17 w_5) ∧ (∃ k1, k1 < 3 ∧ I_e2 g a r n ch ix F i A X G T H W P s S k1 [(0, .inr (.inr (some g))), (2, .inr (.inr (some r))), (3, .inl (nI n)), (4, .inl ch), (5, .inl (nI ix)), (6, .inr (.inr (eR S1 a_1 (nI a).toNatClampNeg))), (8, .inr (.inr x_4))] [] S_3 ((if s < G.m then 0 else 2) + 1) ((if s < G.m then 0 else 6) + (mN S1 a_2))))))))))) ∧ (¬ (0 : Int32) = 0 → (r ∈ mL S1 ∧ ¬ mK S1 r < 21 ∧ mK S1 r < 29 ∧ inR S1 r (0 : Int32) ∧ (pa (eR S1 r (0 : Int32).toNatClampNeg) fun a_6 => isO S1 5 a_6 ∧ (∃ k1, k1 < 3 ∧ I_e2 g a r n ch ix F i A X G T H W P s S k1 [(0, .inr (.inr (some g))), (2, .inr (.inr (some r))), (3, .inl (nI n)), (4, .inl ch), (5, .inl (nI ix)), (6, .inr (.inr (eR S1 a_1 (nI a).toNatClampNeg))), (8, .inr (.inr (mR S1 504 a_6)))] [] S1 (if s < G.m then 0 else 2) (if s < G.m then 0 else 6))))))) ∧ ((nI n) = (1 : Int32) → (r ∈ mL S1 ∧ ¬ mK S1 r < 21 ∧ mK S1 r < 29 ∧ inR S1 r (0 : Int32) ∧ (pa (eR S1 r (0 : Int32).toNatClampNeg) fun a_7 => isO S1 5 a_7 ∧ ((¬ (mR S1 500 a_7) = (eR S1 a_1 (nI a).toNatClampNeg) → (((0 : Int32) = 0 → (isO S1 6 g ∧ (0 = 0 ∧ ((pa (mR S1 606 g) fun a_8 => ((isO S1 17 a_8) ∧ (if s < G.m then 0 else 2) + 1 ≤ enC G s ∧ (if s < G.m then 0 else 6) + (mN S1 a_8) ≤ enZ G s ∧ (∀ (x_10 : Option Nat) (S_9 : MM), (∃ q, q ∉ mL S1 ∧ x_10 = some q ∧ S_9 = rI (nA S1 q 17 (mN S1 a_8)) q (eI S1 a_8)) → ((∀ w_11, x_10 = some w_11 → isO S_9 17 w_11) ∧ (∃ k1, k1 < 3 ∧ I_e2 g a r n ch ix F i A X G T H W P s S k1 [(0, .inr (.inr (some g))), (2, .inr (.inr (some r))), (3, .inl (nI n)), (4, .inl ch), (5, .inl (nI ix)), (6, .inr (.inr (eR S1 a_1 (nI a).toNatClampNeg))), (8, .inr (.inr x_10))] [] S_9 ((if s < G.m then 0 else 2) + 1) ((if s < G.m then 0 else 6) + (mN S1 a_8))))))))))) ∧ (¬ (0 : Int32) = 0 → (r ∈ mL S1 ∧ ¬ mK S1 r < 21 ∧ mK S1 r < 29 ∧ inR S1 r (0 : Int32) ∧ (pa (eR S1 r (0 : Int32).toNatClampNeg) fun a_12 => isO S1 5 a_12 ∧ (∃ k1, k1 < 3 ∧ I_e2 g a r n ch ix F i A X G T H W P s S k1 [(0, .inr (.inr (some g))), (2, .inr (.inr (some r))), (3, .inl (nI n)), (4, .inl ch), (5, .inl (nI ix)), (6, .inr (.inr (eR S1 a_1 (nI a).toNatClampNeg))), (8, .inr (.inr (mR S1 504 a_12)))] [] S1 (if s < G.m then 0 else 2) (if s < G.m then 0 else 6))))))) ∧ ((mR S1 500 a_7) = (eR S1 a_1 (nI a).toNatClampNeg) → (((1 : Int32) = 0 → (isO S1 6 g ∧ (0 = 0 ∧ ((pa (mR S1 606 g) fun a_13 => ((isO S1 17 a_13) ∧ (if s < G.m then 0 else 2) + 1 ≤ enC G s ∧ (if s < G.m then 0 else 6) + (mN S1 a_13) ≤ enZ G s ∧ (∀ (x_15 : Option Nat) (S_14 : MM), (∃ q, q ∉ mL S1 ∧ x_15 = some q ∧ S_14 = rI (nA S1 q 17 (mN S1 a_13)) q (eI S1 a_13)) → ((∀ w_16, x_15 = some w_16 → isO S_14 17 w_16) ∧ (∃ k1, k1 < 3 ∧ I_e2 g a r n ch ix F i A X G T H W P s S k1 [(0, .inr (.inr (some g))), (2, .inr (.inr (some r))), (3, .inl (nI n)), (4, .inl ch), (5, .inl (nI ix)), (6, .inr (.inr (eR S1 a_1 (nI a).toNatClampNeg))), (8, .inr (.inr x_15))] [] S_14 ((if s < G.m then 0 else 2) + 1) ((if s < G.m then 0 else 6) + (mN S1 a_13))))))))))) ∧ (¬ (1 : Int32) = 0 → (r ∈ mL S1 ∧ ¬ mK S1 r < 21 ∧ mK S1 r < 29 ∧ inR S1 r (0 : Int32) ∧ (pa (eR S1 r (0 : Int32).toNatClampNeg) fun a_17 => isO S1 5 a_17 ∧ (∃ k1, k1 < 3 ∧ I_e2 g a r n ch ix F i A X G T H W P s S k1 [(0, .inr (.inr (some g))), (2, .inr (.inr (some r))), (3, .inl (nI n)), (4, .inl ch), (5, .inl (nI ix)), (6, .inr (.inr (eR S1 a_1 (nI a).toNatClampNeg))), (8, .inr (.inr (mR S1 504 a_17)))] [] S1 (if s < G.m then 0 else 2) (if s < G.m then 0 else 6))))))))))))))
      obtain ⟨rfl, ⟨hG0, hF0, hi, hRw, hr, hW, hE⟩, rfl, rfl⟩ := hp
      have a0 : A1 0 = A 0 := hA 0 (by decide)
      obtain ⟨c1, c2, c3, c4, c5, c6⟩ := hG 3
      have h0 := (hG 0).1
      rw [a0] at c1 h0
      have ha := hE.2.1
      have hs := hE.sl
      have ea : eR S1 (A1 4) a = some (X1.aa s) := by
        have := c5 s hs.1
        rw [hs.2] at this; exact this
      have hR1 : RwE S1 X1 (eGr G s a) r P := hRw.keep hK hr hX (eGr_n G s a).1
      have w7 : mR S1 606 (A 0) = some (A1 8) ∧ F1 (A1 8) = (i, 8) ∧ WR S1 (A1 8) W := by
        have := hG 7
        rw [GIf, a0] at this; exact this
      have m16 : mN S1 (A1 8) = 16 := w7.2.2.2.1
      have e1 : (if s < G.m then 0 else 2) + 1 ≤ enC G s := by unfold enC; omega
      have e2 : (if s < G.m then 0 else 6) + 16 ≤ enZ G s := by unfold enZ; omega
      rw [nI_clamp (n := a) (by omega), show (0 : Int32).toNatClampNeg = 0 from rfl]
      have cl : ∀ q, q ∉ mL S1 → ∀ (k1 : Nat), k1 = 2 → I_e2 (A 0) a r P.length (chI oc) ix F i A X G T H W P s S k1 [(0, .inr (.inr (some (A 0)))), (2, .inr (.inr (some r))), (3, .inl (nI P.length)), (4, .inl (chI oc)), (5, .inl (nI ix)), (6, .inr (.inr (eR S1 (A1 4) a))), (8, .inr (.inr (some q)))] [] (rI (nA S1 q 17 (mN S1 (A1 8))) q (eI S1 (A1 8))) ((if s < G.m then 0 else 2) + 1) ((if s < G.m then 0 else 6) + mN S1 (A1 8)) := by
        intro q hq k1 hk1
        subst hk1
        have kq : Keep (fun b => b = q) S1 (rI (nA S1 q 17 (mN S1 (A1 8))) q (eI S1 (A1 8))) := (Keep.rf.nA hq).rI rfl
        obtain ⟨g1, g2, g3, g4⟩ := hG.fresh (v := (i, 12)) hF hi hq kq (fun b => by
          show b ∈ mL S1 ++ [q] ↔ _
          rw [List.mem_append, List.mem_singleton])
        refine ⟨X1.aa s, q, rfl, by rw [ea], rfl, ⟨_, A1, X1, g1, g2, fun b hb => (g3 b (hK.1 b hb).1).trans (hf b hb), ?_, hA, hX, fun b hb => hR b hb, rfl, if_pos rfl, isO_rI isO_nA_self, ?_, fun t ht hts => ?_⟩, Nat.le_refl _, by rw [m16]; exact Nat.le_refl _⟩
        · exact hK.trN g4 (fun b hb z => by rw [← hf b hb]; exact z)
        · show mN (nA S1 q 17 (mN S1 (A1 8))) q = 16
          rw [mN_nA, if_pos rfl, m16]
        · have e5 : eI (rI (nA S1 q 17 (mN S1 (A1 8))) q (eI S1 (A1 8))) q = eI S1 (A1 8) := va_up_self _ _ _
          rw [e5, (w7.2.2.2.2 t ht).1, hW]
      have clo : isO S1 6 (A 0) ∧ (0 = 0 ∧ (pa (mR S1 606 (A 0)) fun a_2 => ((isO S1 17 a_2) ∧ (if s < G.m then 0 else 2) + 1 ≤ enC G s ∧ (if s < G.m then 0 else 6) + (mN S1 a_2) ≤ enZ G s ∧ (∀ (x_4 : Option Nat) (S_3 : MM), (∃ q, q ∉ mL S1 ∧ x_4 = some q ∧ S_3 = rI (nA S1 q 17 (mN S1 a_2)) q (eI S1 a_2)) → ((∀ w_5, x_4 = some w_5 → isO S_3 17 w_5) ∧ (∃ k1, k1 < 3 ∧ I_e2 (A 0) a r P.length (chI oc) ix F i A X G T H W P s S k1 [(0, .inr (.inr (some (A 0)))), (2, .inr (.inr (some r))), (3, .inl (nI P.length)), (4, .inl (chI oc)), (5, .inl (nI ix)), (6, .inr (.inr (eR S1 (A1 4) a))), (8, .inr (.inr x_4))] [] S_3 ((if s < G.m then 0 else 2) + 1) ((if s < G.m then 0 else 6) + (mN S1 a_2)))))))) := by
        refine ⟨h0, rfl, pa_i w7.1 ⟨w7.2.2.1, e1, by rw [m16]; exact e2, fun x4 S3 hq => ?_⟩⟩
        obtain ⟨q, hq, rfl, rfl⟩ := hq
        exact ⟨fun w hw => by cases hw; exact isO_rI isO_nA_self, 2, by omega, cl q hq 2 rfl⟩
      refine ⟨h0, pa_i c1 ⟨c2.1, by rw [c2.2]; decide, by rw [c2.2]; decide, vp_in_nI (by rw [c4]; exact ha) (by rw [c4]; decide), fun hn => ⟨fun _ => clo, fun z => absurd rfl z⟩, fun hn => ?_⟩⟩
      have hP1 : P.length = 1 := (nI_eq (a := P.length) (b := 1) (by have := hE.2.2.1; omega) (by decide)).mp hn
      obtain ⟨p, rfl⟩ := List.length_eq_one_iff.1 hP1
      obtain ⟨rr1, rr2, rr3, rr4⟩ := hR1
      have p1 : eR S1 r 0 = some (X1.ad p) := (rr4 0 Nat.zero_lt_one).1
      have p2 : p < (eGr G s a).n := (rr4 0 Nat.zero_lt_one).2
      have rr2 : 1 ≤ mN S1 r := rr2
      obtain ⟨v1, v2, v3, v4, v5, v6, v7, v8, v9, v10, v11, v12, -⟩ := hG.ev.2.1 p p2
      refine ⟨rr1.1, by rw [rr1.2]; decide, by rw [rr1.2]; decide, vp_in_nI (n := 0) (by omega) (by omega), pa_i p1 ⟨v1, fun hne => ⟨fun _ => clo, fun z => absurd rfl z⟩, fun heq => ⟨fun z => absurd z (by decide), fun _ => ⟨rr1.1, by rw [rr1.2]; decide, by rw [rr1.2]; decide, vp_in_nI (n := 0) (by omega) (by omega), pa_i p1 ⟨v1, 2, by omega, ?_⟩⟩⟩⟩⟩
      rw [v2, ea] at heq
      have esl : ((eGr G s a).ev p).sl = s := Decidable.byContradiction (fun w => f_ne (hG 12 _ (hG.ok.sl1 _ p2)).1 (hG 12 s hs.1).1 (by omega) (Option.some.inj heq))
      refine ⟨X1.aa s, X1.bf p, rfl, by rw [ea, v9], rfl, ⟨F1, A1, X1, hG, hF, hf, hK, hA, hX, hR, rfl, (hG 11 _ p2).2.2, v10, v11, fun t ht hts => ?_⟩, Nat.le_add_right _ _, Nat.le_add_right _ _⟩
      rw [v12 t ht (by rw [esl]; exact hts), ← eGr_jn G s a]
      show _ = nI (max (Gr.full (eGr G s a) p t) 0)
      rw [Gr.full, if_neg (by rw [esl]; exact hts), Nat.max_zero]
    · cases hm
      obtain ⟨ga, bq, rfl, rfl, rfl, hG, hcs, hsl⟩ := h
      refine ⟨300, ?_⟩
      show (2 = 2 ∧ (∃ (n_1 : Nat), nI n = nI n_1 ∧ (∃ (X_2 : GX) (G_3 : Gr) (P_4 : List Nat), (EvT S1 X_2 G_3 ∧ RwE S1 X_2 G_3 r P_4 ∧ n_1 = P_4.length ∧ P_4.Nodup) ∧ cs + 1 ≤ enC G s ∧ sl + n_1 ≤ enZ G s ∧ (∀ (x_6 : Option Nat) (S_5 : MM), (soP S1 S_5 X_2 G_3 P_4 n_1 x_6) → (cs + 1 + 1 ≤ enC G s ∧ sl + n_1 + 16 ≤ enZ G s ∧ ∀ q_7, q_7 ∉ mL S_5 → (isO (nO S_5 q_7 5) 1 ga ∧ (0 = 0 ∧ ((pa (mR (nO S_5 q_7 5) 102 ga) fun a_8 => (∃ (d_9 c_10 kk_11 : Nat) (L_12 : List Nat), (AL (nO S_5 q_7 5) a_8 d_9 c_10 kk_11 L_12) ∧ cs + 1 + 1 ≤ enC G s ∧ sl + n_1 + 16 ≤ enZ G s ∧ ((isO (nO S_5 q_7 5) 6 g ∧ (0 = 0 ∧ ((pa (mR (nO S_5 q_7 5) 601 g) fun a_14 => (∃ (d_15 c_16 kk_17 : Nat) (L_18 : List Nat), (AL (nO S_5 q_7 5) a_14 d_15 c_16 kk_17 L_18) ∧ cs + 1 + 1 ≤ enC G s ∧ sl + n_1 + 16 ≤ enZ G s ∧ ((1 = 1 ∧ ((isO (nO S_5 q_7 5) 5 q_7) ∧ cs + 1 + 1 ≤ enC G s ∧ sl + n_1 + 16 ≤ enZ G s ∧ ((0 = 0 ∧ ((isO (evS (nO S_5 q_7 5) q_7 (some ga) (nI L_12.length) (nI L_18.length) x_6 (some bq) ch (nI ix)) 5 q_7) ∧ cs + 1 + 1 ≤ enC G s ∧ sl + n_1 + 16 ≤ enZ G s ∧ ((((if mI (evS (nO S_5 q_7 5) q_7 (some ga) (nI L_12.length) (nI L_18.length) x_6 (some bq) ch (nI ix)) 505 q_7 = -1 then 0 else 1) = 0 → (0 = 0 ∧ (∃ (rt_22 i_23 : Nat) (O_24 A_25 B_26 : List Nat), (isO (evS (nO S_5 q_7 5) q_7 (some ga) (nI L_12.length) (nI L_18.length) x_6 (some bq) ch (nI ix)) 6 g ∧ isO (evS (nO S_5 q_7 5) q_7 (some ga) (nI L_12.length) (nI L_18.length) x_6 (some bq) ch (nI ix)) 5 q_7 ∧ mI (evS (nO S_5 q_7 5) q_7 (some ga) (nI L_12.length) (nI L_18.length) x_6 (some bq) ch (nI ix)) 506 q_7 = nI i_23 ∧ mR (evS (nO S_5 q_7 5) q_7 (some ga) (nI L_12.length) (nI L_18.length) x_6 (some bq) ch (nI ix)) 600 g = some rt_22 ∧ ChP (evS (nO S_5 q_7 5) q_7 (some ga) (nI L_12.length) (nI L_18.length) x_6 (some bq) ch (nI ix)) rt_22 O_24 ∧ O_24.length ≤ 100000 ∧ O_24 = A_25 ++ B_26 ∧ mR (evS (nO S_5 q_7 5) q_7 (some ga) (nI L_12.length) (nI L_18.length) x_6 (some bq) ch (nI ix)) 610 g = some (A_25.getLastD rt_22) ∧ mI (evS (nO S_5 q_7 5) q_7 (some ga) (nI L_12.length) (nI L_18.length) x_6 (some bq) ch (nI ix)) 611 g = nI (seenC (evS (nO S_5 q_7 5) q_7 (some ga) (nI L_12.length) (nI L_18.length) x_6 (some bq) ch (nI ix)) A_25) ∧ i_23 < seenC (evS (nO S_5 q_7 5) q_7 (some ga) (nI L_12.length) (nI L_18.length) x_6 (some bq) ch (nI ix)) O_24 ∧ g ≠ q_7) ∧ cs + 1 + 1 ≤ enC G s ∧ sl + n_1 + 16 ≤ enZ G s ∧ (∀ (S_27 : MM), (skP (evS (nO S_5 q_7 5) q_7 (some ga) (nI L_12.length) (nI L_18.length) x_6 (some bq) ch (nI ix)) S_27 g q_7 i_23 O_24) → (∃ k1, k1 < 2 ∧ I_e3 g a r n ch ix F i A X G T H W P oc s S k1 [(0, .inr (.inr (some g))), (6, .inr (.inr (some ga))), (10, .inr (.inr (some q_7)))] [] S_27 (cs + 1 + 1) (sl + n_1 + 16)))))) ∧ (¬ (if mI (evS (nO S_5 q_7 5) q_7 (some ga) (nI L_12.length) (nI L_18.length) x_6 (some bq) ch (nI ix)) 505 q_7 = -1 then 0 else 1) = 0 → (0 = 0 ∧ (∃ (rt_28 i_29 n_30 : Nat) (O_31 A_32 B_33 : List Nat), (HgQ (evS (nO S_5 q_7 5) q_7 (some ga) (nI L_12.length) (nI L_18.length) x_6 (some bq) ch (nI ix)) g q_7 rt_28 i_29 n_30 O_31 A_32 B_33) ∧ cs + 1 + 1 ≤ enC G s ∧ sl + n_1 + 16 ≤ enZ G s ∧ (∀ (S_34 : MM), (hgP (evS (nO S_5 q_7 5) q_7 (some ga) (nI L_12.length) (nI L_18.length) x_6 (some bq) ch (nI ix)) S_34 g rt_28 q_7 i_29 n_30 O_31) → (∃ k1, k1 < 2 ∧ I_e3 g a r n ch ix F i A X G T H W P oc s S k1 [(0, .inr (.inr (some g))), (6, .inr (.inr (some ga))), (10, .inr (.inr (some q_7)))] [] S_34 (cs + 1 + 1) (sl + n_1 + 16))))))))))))))))))))))))))))))
      obtain ⟨rfl, ⟨hG0, hF0, hi, hRw, hr, hW, hE⟩, rfl, rfl⟩ := hp
      obtain ⟨F1, A1, X1, hG, hF, hf, hK, hA, hX, hR, rfl, hb1, hb2, hb3, hb4⟩ := hG
      have a0 : A1 0 = A 0 := hA 0 (by decide)
      have hP16 := hE.2.2.1
      have hs := hE.sl
      have en := (eGr_n G s a).1
      have u1 : ∀ z, z ≤ (if s < G.m then 0 else 2) + 4 → z ≤ enC G s := fun z hz => by unfold enC; omega
      have u2 : ∀ z, z ≤ (if s < G.m then 0 else 6) + 70 → z ≤ enZ G s := fun z hz => by unfold enZ; omega
      have hR1 : RwE S1 X1 (eGr G s a) r P := hRw.keep hK hr hX en
      refine ⟨rfl, P.length, rfl, X1, eGr G s a, P, ⟨hG.ev, hR1, rfl, hE.2.2.2.1⟩, u1 _ (by omega), u2 _ (by omega), fun x5 S5 hS5 => ?_⟩
      obtain ⟨q2, f, L, rfl, hq2, rfl, hL, hfL⟩ := hS5
      have kq2 : Keep (fun b => b = q2) S1 (nwE S1 q2 P.length f) := nwE_keep hq2
      obtain ⟨g1, g2, g3, g4⟩ := hG.fresh (v := (i, 11)) hF hi hq2 kq2 (fun b => by
        show b ∈ mL S1 ++ [q2] ↔ _
        rw [List.mem_append, List.mem_singleton])
      refine ⟨u1 _ (by omega), u2 _ (by omega), fun q7 hq7 => ?_⟩
      have L1 := hG 12 s hs.1
      have l12 := g1 12 s hs.1
      have l2 := g1 2
      rw [GIf, a0] at l2
      have gaO : isO (nwE S1 q2 P.length f) 1 (X1.aa s) := (g1.ev.2.2.1 s hs.1).1
      have g6 : isO (nwE S1 q2 P.length f) 6 (A 0) := a0 ▸ (g1 0).1
      have gq7 : X1.aa s ≠ q7 := fun z => hq7 (z ▸ gaO.1)
      have hq76 : A 0 ≠ q7 := fun z => hq7 (z ▸ g6.1)
      have kn : Keep (fun b => b = q7) (nwE S1 q2 P.length f) (nO (nwE S1 q2 P.length f) q7 5) := Keep.rf.nO hq7
      have al1 : AL (nO (nwE S1 q2 P.length f) q7 5) (A1 (20 + 2 * s)) (A1 (21 + 2 * s)) (capF ((eGr G s a).cn s)) 5 ((evL (eGr G s a) s).map X1.ad) := l12.2.2.2.2.keepc kn (fun z => hq7 (z ▸ l12.2.2.2.2.1.1)) (fun c z => hq7 (z ▸ ((l12.2.2.2.2.row c).1.1)))
      have al2 : AL (nO (nwE S1 q2 P.length f) q7 5) (A1 2) (A1 3) (capF (eGr G s a).n) 5 ((List.range (eGr G s a).n).map X1.ad) := l2.2.2.2.keepc kn (fun z => hq7 (z ▸ l2.2.2.2.1.1)) (fun c z => hq7 (z ▸ ((l2.2.2.2.row c).1.1)))
      refine ⟨isO_nO gaO hq7, rfl, pa_i (by rw [mR_nO, if_neg gq7]; exact l12.2.1) ⟨_, _, _, _, al1, u1 _ (by omega), u2 _ (by omega), isO_nO g6 hq7, rfl, pa_i (by rw [mR_nO, if_neg hq76]; exact l2.1) ⟨_, _, _, _, al2, u1 _ (by omega), u2 _ (by omega), rfl, isO_nO_self, u1 _ (by omega), u2 _ (by omega), rfl, ?_⟩⟩⟩
      have k6 : Keep (fun b => b = q7) (nwE S1 q2 P.length f) (evS (nO (nwE S1 q2 P.length f) q7 5) q7 (some (X1.aa s)) (nI ((evL (eGr G s a) s).map X1.ad).length) (nI ((List.range (eGr G s a).n).map X1.ad).length) (some q2) (some bq) (chI oc) (nI ix)) := kn.tr (evS_keep rfl)
      have m6 : ∀ b, b ∈ mL (evS (nO (nwE S1 q2 P.length f) q7 5) q7 (some (X1.aa s)) (nI ((evL (eGr G s a) s).map X1.ad).length) (nI ((List.range (eGr G s a).n).map X1.ad).length) (some q2) (some bq) (chI oc) (nI ix)) ↔ b ∈ mL (nwE S1 q2 P.length f) ∨ b = q7 := fun b => by
        show b ∈ mL (nwE S1 q2 P.length f) ++ [q7] ↔ _
        rw [List.mem_append, List.mem_singleton]
      have iR : ∀ j, mR (evS (nO (nwE S1 q2 P.length f) q7 5) q7 (some (X1.aa s)) (nI ((evL (eGr G s a) s).map X1.ad).length) (nI ((List.range (eGr G s a).n).map X1.ad).length) (some q2) (some bq) (chI oc) (nI ix)) j q7 = _ := fun j => evS_R
      have iI : ∀ j, mI (evS (nO (nwE S1 q2 P.length f) q7 5) q7 (some (X1.aa s)) (nI ((evL (eGr G s a) s).map X1.ad).length) (nI ((List.range (eGr G s a).n).map X1.ad).length) (some q2) (some bq) (chI oc) (nI ix)) j q7 = _ := fun j => evS_I
      have o6 : isO (evS (nO (nwE S1 q2 P.length f) q7 5) q7 (some (X1.aa s)) (nI ((evL (eGr G s a) s).map X1.ad).length) (nI ((List.range (eGr G s a).n).map X1.ad).length) (some q2) (some bq) (chI oc) (nI ix)) 5 q7 := (evS_keep (P := fun b => b = q7) rfl).isO isO_nO_self
      generalize evS (nO (nwE S1 q2 P.length f) q7 5) q7 (some (X1.aa s)) (nI ((evL (eGr G s a) s).map X1.ad).length) (nI ((List.range (eGr G s a).n).map X1.ad).length) (some q2) (some bq) (chI oc) (nI ix) = S6 at *
      rw [List.length_map, List.length_range, List.length_map, evL_len, eGr_cn, en] at iI
      have hq2' : isO (nwE S1 q2 P.length f) 23 q2 ∧ mN (nwE S1 q2 P.length f) q2 = P.length ∧ eR (nwE S1 q2 P.length f) q2 = f := nwE_q
      have hb2' : isO (nwE S1 q2 P.length f) 17 bq := kq2.isO hb2
      have bqe : bq ≠ q2 := fun z => hq2 (z ▸ hb2.1)
      have hb3' : mN (nwE S1 q2 P.length f) bq = 16 := (kq2.1 bq hb2.1).2.2.trans hb3
      have hb4' : eI (nwE S1 q2 P.length f) bq = eI S1 bq := (kq2.2.1 bq hb2.1 bqe).2.2.2.1
      have bq2 : (fun b => if b = q2 then (i, 11) else F1 b) bq = (i, 12) := (if_neg bqe).trans hb1
      have qq2 : (fun b => if b = q2 then (i, 11) else F1 b) q2 = (i, 11) := if_pos rfl
      have fr2 : ∀ b, b ∈ mL S → (fun b => if b = q2 then (i, 11) else F1 b) b = F b := fun b hb => (g3 b (hK.1 b hb).1).trans (hf b hb)
      have hR2 : KRk S (nwE S1 q2 P.length f) := hR.tr hK (KRk.of kq2 (fun b hb z => hq2 (z ▸ hb.1)))
      have k2 : Keep (fun b => (F b).1 = i) S (nwE S1 q2 P.length f) := hK.trN g4 (fun b hb z => by rw [← hf b hb]; exact z)
      generalize (fun b => if b = q2 then (i, 11) else F1 b) = F2 at *
      generalize nwE S1 q2 P.length f = S5 at *
      obtain ⟨z1, z2, z3, z4⟩ := g1.fresh (v := (i, 100 + G.n)) g2 hi hq7 k6 m6
      have bq7 : bq ≠ q7 := fun z => hq7 (z ▸ hb2'.1)
      have q27 : q2 ≠ q7 := fun z => hq7 (z ▸ hq2'.1.1)
      have f7 : (fun b => if b = q7 then (i, 100 + G.n) else F2 b) q7 = (i, 100 + G.n) := if_pos rfl
      have f2 : (fun b => if b = q7 then (i, 100 + G.n) else F2 b) q2 = (i, 11) := (if_neg q27).trans qq2
      have fb : (fun b => if b = q7 then (i, 100 + G.n) else F2 b) bq = (i, 12) := (if_neg bq7).trans bq2
      have fr3 : ∀ b, b ∈ mL S → (fun b => if b = q7 then (i, 100 + G.n) else F2 b) b = F b := fun b hb => (z3 b (k2.1 b hb).1).trans (fr2 b hb)
      have hR3 : KRk S S6 := hR2.tr k2 (KRk.of k6 (fun b hb z => hq7 (z ▸ hb.1)))
      have k3 : Keep (fun b => (F b).1 = i) S S6 := k2.trN z4 (fun b hb z => by rw [← fr2 b hb]; exact z)
      generalize (fun b => if b = q7 then (i, 100 + G.n) else F2 b) = F3 at *
      have hX' : GI S6 F3 i A1 (updN X1.ad G.n q7, updN X1.pw G.n q2, updN X1.bf G.n bq, X1.aa) (eGr G s a) T H W := z1.xcg (fun k hk => by
        rw [en] at hk
        exact ⟨updN_o (by omega), updN_o (by omega), updN_o (by omega)⟩) rfl
      have x1 : GX.ad (updN X1.ad G.n q7, updN X1.pw G.n q2, updN X1.bf G.n bq, X1.aa) (eGr G s a).n = q7 := by rw [en]; exact updN_s
      have x2 : GX.pw (updN X1.ad G.n q7, updN X1.pw G.n q2, updN X1.bf G.n bq, X1.aa) (eGr G s a).n = q2 := by rw [en]; exact updN_s
      have x3 : GX.bf (updN X1.ad G.n q7, updN X1.pw G.n q2, updN X1.bf G.n bq, X1.aa) (eGr G s a).n = bq := by rw [en]; exact updN_s
      have x4 : ∀ k, k < G.n → GX.ad (updN X1.ad G.n q7, updN X1.pw G.n q2, updN X1.bf G.n bq, X1.aa) k = X.ad k := fun k hk => by rw [← hX]; exact updN_o (by omega)
      have x5 : GX.aa (updN X1.ad G.n q7, updN X1.pw G.n q2, updN X1.bf G.n bq, X1.aa) = X1.aa := rfl
      have x6 : ∀ k, k < G.n → X1.ad k = GX.ad (updN X1.ad G.n q7, updN X1.pw G.n q2, updN X1.bf G.n bq, X1.aa) k := fun k hk => (updN_o (by omega)).symm
      generalize (updN X1.ad G.n q7, updN X1.pw G.n q2, updN X1.bf G.n bq, X1.aa) = X2 at *
      have lP : ∀ p, p ∈ L → p < G.n := fun p hp => hE.2.2.2.2.1 p (by have := (hL.2.1 p).1 hp; rw [List.take_length] at this; exact this)
      have hEN : ∀ tg, EvN S6 X2 (eGr G s a) (s, G.cn s, G.jn P, L, oc, ix, tg) := fun tg => by
        unfold EvN
        rw [x1, x2, x3, x5]
        refine ⟨⟨o6, by rw [iR]; rfl, by rw [iI]; rfl, by rw [iI, en]; rfl, by rw [iR]; rfl, k6.isO hq2'.1, ?_, fun j hj => ?_, by rw [iR]; rfl, k6.isO hb2', (k6.1 _ hb2'.1).2.2.trans hb3', fun t ht hts => ?_, by rw [iI]; rfl, by rw [iI]; rfl⟩, by rw [iR]; rfl, by rw [iR]; rfl, by rw [iI]; rfl⟩
        · rw [(k6.1 _ hq2'.1.1).2.2, hq2'.2.1]
          exact hL.1.symm
        · have hj : j < L.length := hj
          rw [(k6.2.1 _ hq2'.1.1 q27).2.2.2.2.2, hq2'.2.2, hfL j (by rw [← hL.1]; exact hj)]
          show some (X1.ad (L.getD j 0)) = some (GX.ad X2 (L.getD j 0))
          rw [x6 _ (lP _ (by rw [getD_el hj]; exact List.getElem_mem _))]
        · rw [(k6.2.1 _ hb2'.1 bq7).2.2.2.1, hb4']
          exact hb4 t ht hts
      have hF9 : F3 (GX.ad X2 (eGr G s a).n) = (i, 100 + (eGr G s a).n) ∧ F3 (GX.pw X2 (eGr G s a).n) = (i, 11) ∧ F3 (GX.bf X2 (eGr G s a).n) = (i, 12) := by
        rw [x1, x2, x3, en]; exact ⟨f7, f2, fb⟩
      have e505 : mI S6 505 q7 = chI oc := by rw [iI]; rfl
      have cm : chI oc = -1 ↔ oc = none := chI_m1 (fun c q => (hE.2.2.2.2.2.2.2.2.1 c q).1)
      have a71 := (hX' 5).2.2.2.2
      have cc1 : c1 (eGr G s a) W (eGr G s a).n = c1 G (G.jn P) G.n := by rw [eGr_c1, en, hW]
      rw [e505]
      refine ⟨o6, u1 _ (by omega), u2 _ (by omega), fun hz => ?_, fun hz => ?_⟩
      · have hoc : oc = none := by
          by_cases w : chI oc = -1
          · exact cm.1 w
          · rw [if_neg w] at hz; exact absurd hz (by decide)
        obtain ⟨U, V, hq⟩ := hX'.skq (hEN 0) (show ix < _ by rw [cc1]; exact hE.2.2.2.2.2.2.2.2.2 hoc)
        rw [x1, a0] at hq
        refine ⟨rfl, A1 1, ix, T.od.map (xa A1 X2), U, V, hq, u1 _ (by omega), u2 _ (by omega), fun S7 hS7 => ?_⟩
        obtain ⟨U1, y, B1, o1, o2, o3, rfl⟩ := hS7
        obtain ⟨U2, x, V2, t1, t2, t3, rfl⟩ := hX'.skt (e := (s, G.cn s, G.jn P, L, oc, ix, 0)) hW o1 o2 o3
        obtain ⟨tg, rfl, tn, -⟩ := hX'.nd (show x ∈ T.od by rw [t1]; simp)
        obtain ⟨G9, K9⟩ := hX'.struck (e := (s, G.cn s, G.jn P, L, oc, ix, tg)) hF9 (hEN tg) (hE.ein hL) hoc hW ⟨U2, V2, t1, t2, t3⟩
        rw [x1, a0] at G9 K9
        refine ⟨1, by omega, X1.aa s, q7, rfl, rfl, rfl, ⟨F3, A1, X2, (s, G.cn s, G.jn P, L, oc, ix, tg), T, G9, ?_, fr3, k3.trN K9 (fun b hb z => by rw [← fr3 b hb]; exact z), hA, x4, hR3.tr k3 KRk.sk, by rw [x5], by rw [← en, x1], hX' 20, a71, rfl, rfl, rfl, hL, rfl, rfl, hE.ein hL, hX'.gt.del (hE.ein hL) hoc (by rw [t1]; simp; exact Or.inr (Or.inl rfl)), Or.inr ⟨hoc, rfl, ⟨U2, V2, t1, t2, t3⟩⟩⟩, by omega, by omega⟩
        intro b hb
        exact (K9.1 b (z2 b hb)).1
      · have hoc : oc ≠ none := fun w => hz (by rw [if_pos (cm.2 w)])
        obtain ⟨U, V, hq⟩ := hX'.hgq (hEN 0) (hE.ein hL) (show ix ≤ _ by
          rw [cc1]
          obtain ⟨c, hc⟩ := Option.ne_none_iff_exists'.1 hoc
          exact (hE.2.2.2.2.2.2.2.2.1 c hc).2)
        rw [x1, a0] at hq
        refine ⟨rfl, A1 1, ix, T.od.length, T.od.map (xa A1 X2), U, V, hq, u1 _ (by omega), u2 _ (by omega), fun S7 hS7 => ?_⟩
        rw [← a0, ← x1] at hS7
        obtain ⟨T', i1, G9, K9⟩ := hX'.hung (e := (s, G.cn s, G.jn P, L, oc, ix, 0)) hF9 (hEN 0) (hE.ein hL) hoc hW hS7
        rw [en] at i1
        have h19 : GT ((eGr G s a).push (s, G.cn s, G.jn P, L, oc, ix, 0) (eGr G s a).m (eGr G s a).ag) T' := G9.1 19 (by decide) (by decide) (by decide) (by decide) (by decide)
        refine ⟨1, by omega, X1.aa s, q7, rfl, rfl, rfl, ⟨F3, A1, X2, (s, G.cn s, G.jn P, L, oc, ix, 0), T', G9, ?_, fr3, k3.trN K9 (fun b hb z => by rw [← fr3 b hb]; exact z), hA, x4, hR3.tr k3 (KRk.hg hS7), by rw [x5], by rw [← en, x1], hX' 20, a71, rfl, rfl, rfl, hL, rfl, rfl, hE.ein hL, h19, Or.inl ⟨hoc, rfl, i1⟩⟩, by omega, by omega⟩
        intro b hb
        exact (K9.1 b (z2 b hb)).1
    · cases hm
      obtain ⟨ga, q, rfl, rfl, rfl, hG, hcs, hsl⟩ := h
      refine ⟨300, ?_⟩
      show (isO S1 6 g ∧ (0 = 0 ∧ ((pa (mR S1 601 g) fun a_1 => (∃ (d_2 c_3 kk_4 : Nat) (L_5 : List Nat), (AL S1 a_1 d_2 c_3 kk_4 L_5 ∧ isO S1 kk_4 q ∧ c_3 ≤ 50000) ∧ cs + (alC c_3 L_5.length) ≤ enC G s ∧ sl + (alZ c_3 L_5.length) ≤ enZ G s ∧ (∀ (S_6 : MM), (adP S1 S_6 a_1 d_2 c_3 kk_4 L_5 (L_5 ++ [q])) → (isO S_6 1 ga ∧ (0 = 0 ∧ ((pa (mR S_6 102 ga) fun a_7 => (∃ (d_8 c_9 kk_10 : Nat) (L_11 : List Nat), (AL S_6 a_7 d_8 c_9 kk_10 L_11 ∧ isO S_6 kk_10 q ∧ c_9 ≤ 50000) ∧ cs + (alC c_3 L_5.length) + (alC c_9 L_11.length) ≤ enC G s ∧ sl + (alZ c_3 L_5.length) + (alZ c_9 L_11.length) ≤ enZ G s ∧ (∀ (S_12 : MM), (adP S_6 S_12 a_7 d_8 c_9 kk_10 L_11 (L_11 ++ [q])) → (isO S_12 6 g ∧ (isO S_12 1 ga ∧ (isO S_12 5 q ∧ (pa (mR S_12 606 g) fun a_13 => isO S_12 17 a_13 ∧ inR S_12 a_13 (mI S_12 101 ga) ∧ (0 = 0 ∧ (∃ (ho_14 d_15 c_16 e_17 : Nat) (X_18 : GX) (G_19 : Gr) (H_20 : List Nat), (isO (rI S_12 a_13 (upd (eI S_12 a_13) (mI S_12 101 ga).toNatClampNeg ((mI S_12 501 q) + (1 : Int32)))) 6 g ∧ mR (rI S_12 a_13 (upd (eI S_12 a_13) (mI S_12 101 ga).toNatClampNeg ((mI S_12 501 q) + (1 : Int32)))) 604 g = some ho_14 ∧ AL (rI S_12 a_13 (upd (eI S_12 a_13) (mI S_12 101 ga).toNatClampNeg ((mI S_12 501 q) + (1 : Int32)))) ho_14 d_15 c_16 5 (H_20.map X_18.ad) ∧ c_16 ≤ 50000 ∧ EvT (rI S_12 a_13 (upd (eI S_12 a_13) (mI S_12 101 ga).toNatClampNeg ((mI S_12 501 q) + (1 : Int32)))) X_18 G_19 ∧ e_17 < G_19.n ∧ q = X_18.ad e_17 ∧ (∀ y, y ∈ H_20 → y < G_19.n ∧ y ≠ e_17) ∧ H_20.Pairwise (fun p q => G_19.key p < G_19.key q)) ∧ cs + (alC c_3 L_5.length) + (alC c_9 L_11.length) + (alC c_16 H_20.length) ≤ enC G s ∧ sl + (alZ c_3 L_5.length) + (alZ c_9 L_11.length) + (alZ c_16 H_20.length) ≤ enZ G s ∧ (∀ (S_21 : MM), (rhP (rI S_12 a_13 (upd (eI S_12 a_13) (mI S_12 101 ga).toNatClampNeg ((mI S_12 501 q) + (1 : Int32)))) S_21 X_18 G_19 ho_14 d_15 c_16 e_17 H_20) → (([] : List MV) = [] ∧ mret none (sp_gen g a r n ch ix F i A X G T H W P oc s) [.inr (.inr (some g)), .inl (nI a), .inr (.inr (some r)), .inl (nI n), .inl ch, .inl (nI ix)] S none S_21 (cs + (alC c_3 L_5.length) + (alC c_9 L_11.length) + (alC c_16 H_20.length)) (sl + (alZ c_3 L_5.length) + (alZ c_9 L_11.length) + (alZ c_16 H_20.length))))))))))))))))))))))
      obtain ⟨rfl, ⟨hG0, hF0, hi, hRw, hr, hW, hE⟩, rfl, rfl⟩ := hp
      obtain ⟨F1, A1, X1, e, T', hX, hF, hf, hK, hA, had, hR, rfl, rfl, hH, h7, es, en, ep, eS, ec, ei, hEi, hgt, hst⟩ := hG
      have a0 : A1 0 = A 0 := hA 0 (by decide)
      have nn := (eGr_n G s a).1
      have hs := hE.sl
      have hm := hG0.ok.hm
      have hm' : (eGr G s a).m ≤ 16 := by
        have := hgt.1.hm
        exact this
      have sm : s < (eGr G s a).m := hs.1
      have evt : ∀ {S9 : MM} {F9 : Nat → Nat × Nat} {D9 c9 : Nat → Nat} {L9 : Nat → List Nat} {W9 : Nat → Nat}, GX8 S9 F9 i A1 X1 ((eGr G s a).push e (eGr G s a).m (eGr G s a).ag) T' (wNx e) W9 D9 c9 L9 → EvT S9 X1 ((eGr G s a).push e (eGr G s a).m (eGr G s a).ag) ∧ isO S9 6 (A1 0) := fun h => ⟨h.1 10 (by decide) (by decide) (by decide) (by decide) (by decide), (h.1 0 (by decide) (by decide) (by decide) (by decide) (by decide)).1⟩
      have nlt : G.n < ((eGr G s a).push e (eGr G s a).m (eGr G s a).ag).n := by rw [Gr.push_n, nn]; omega
      obtain ⟨v0, g0⟩ := evt hX
      rw [a0] at g0
      have hc1 := capF_le G.n
      have hc2 := capF_le (G.cn s)
      have hnn := hE.1
      have hcn : G.cn s ≤ G.n := Gr.cnt_le G.n s
      -- the list of all
      obtain ⟨b1, b2, b3⟩ := hX.2.2.2 0 (by omega)
      have b3' : AL S1 (A1 2) (giD A1 0) (capF G.n) 5 ((List.range G.n).map X1.ad) := by
        have : AL S1 (LA A1 0) (giD A1 0) (capF (eGr G s a).n) 5 ((List.range (eGr G s a).n).map X1.ad) := b3
        rw [nn] at this; exact this
      have p601 : mR S1 601 (A 0) = some (A1 2) := a0 ▸ hX.2.1.1
      have u1 : cs + alC (capF G.n) G.n ≤ enC G s := by unfold enC; omega
      have u2 : sl + alZ (capF G.n) G.n ≤ enZ G s := by unfold enZ; omega
      have len1 : ((List.range G.n).map X1.ad).length = G.n := by rw [List.length_map, List.length_range]
      refine ⟨g0, rfl, pa_i p601 ⟨giD A1 0, capF G.n, 5, (List.range G.n).map X1.ad, ⟨b3', (v0.2.1 _ nlt).1, by omega⟩, by rw [len1]; exact u1, by rw [len1]; exact u2, fun S6 hS6 => ?_⟩⟩
      obtain ⟨d6, f1, f2, f3⟩ := hS6
      rw [len1] at f1
      obtain ⟨F6, X6, FO6, fF6, K6⟩ := hX.add hF hi hm' (t0 := 0) (d' := d6) (c' := alK (capF G.n) G.n) (L' := (List.range G.n).map X1.ad ++ [X1.ad G.n]) (by omega) (by
          have : Keep (AP S1 (A1 2) (giD A1 0) (capF (eGr G s a).n)) S1 S6 := by rw [nn]; exact f2
          exact this) f1 (by
          have := capF_le (G.n + 1)
          rw [capF] at this; omega) (by
          rcases f3 with q | q
          · exact Or.inl ⟨q.1, by
              show capF (eGr G s a).n ≠ 0
              rw [nn]; exact q.2⟩
          · exact Or.inr q)
      have fr6 : ∀ b, b ∈ mL S → F6 b = F b := fun b hb => (fF6 b (hK.1 b hb).1).trans (hf b hb)
      have hR6 : KRk S S6 := hR.tr hK (KRk.ap b3' f2)
      have k6 : Keep (fun b => (F b).1 = i) S S6 := hK.trN K6 (fun b hb z => by rw [← hf b hb]; exact z)
      obtain ⟨v6, g6⟩ := evt X6
      rw [a0] at g6
      -- the agent's list
      obtain ⟨b4, b5, b6⟩ := X6.2.2.2 (2 + s) (by show 2 + s < (eGr G s a).m + 2; omega)
      have l2 : LA A1 (2 + s) = A1 (20 + 2 * s) := by rw [LA, if_neg (by omega), if_neg (by omega), show 2 + s - 2 = s by omega]
      have c2s : updN (giC A1 (eGr G s a)) 0 (alK (capF G.n) G.n) (2 + s) = capF (G.cn s) := by
        rw [updN_o (by omega), giC, if_neg (by omega), if_neg (by omega), show 2 + s - 2 = s by omega, eGr_cn]
      have l2s : updL (giL X1 (eGr G s a) H) 0 ((List.range G.n).map X1.ad ++ [X1.ad G.n]) (2 + s) = (evL (eGr G s a) s).map X1.ad := by
        rw [updL, if_neg (by omega), giL, if_neg (by omega), if_neg (by omega), show 2 + s - 2 = s by omega]
      rw [c2s] at b5
      rw [l2, c2s, l2s] at b6
      have len2 : ((evL (eGr G s a) s).map X1.ad).length = G.cn s := by rw [List.length_map, evL_len, eGr_cn]
      have ag6 := v6.2.2.1 s (show s < (eGr G s a).m from sm)
      have u3 : cs + alC (capF G.n) G.n + alC (capF (G.cn s)) (G.cn s) ≤ enC G s := by unfold enC; omega
      have u4 : sl + alZ (capF G.n) G.n + alZ (capF (G.cn s)) (G.cn s) ≤ enZ G s := by unfold enZ; omega
      refine ⟨ag6.1, rfl, pa_i (X6.2.1.2.2 s sm).2 ⟨updN (giD A1) 0 d6 (2 + s), capF (G.cn s), 5, (evL (eGr G s a) s).map X1.ad, ⟨b6, (v6.2.1 _ nlt).1, by omega⟩, by rw [len1, len2]; exact u3, by rw [len1, len2]; exact u4, fun S7 hS7 => ?_⟩⟩
      obtain ⟨d7, f4, f5, f6⟩ := hS7
      rw [len2] at f4
      obtain ⟨F7, X7, FO7, fF7, K7⟩ := X6.add FO6 hi hm' (t0 := 2 + s) (d' := d7) (c' := alK (capF (G.cn s)) (G.cn s)) (L' := (evL (eGr G s a) s).map X1.ad ++ [X1.ad G.n]) (by show 2 + s < (eGr G s a).m + 2; omega) (by rw [l2, c2s]; exact f5) (by rw [l2]; exact f4) (by
          have := capF_le (G.cn s + 1)
          rw [capF] at this; omega) (by rw [c2s]; exact f6)
      have fr7 : ∀ b, b ∈ mL S → F7 b = F b := fun b hb => (fF7 b (k6.1 b hb).1).trans (fr6 b hb)
      have hR7 : KRk S S7 := hR6.tr k6 (KRk.ap b6 f5)
      have k7 : Keep (fun b => (F b).1 = i) S S7 := k6.trN K7 (fun b hb z => by rw [← fr6 b hb]; exact z)
      obtain ⟨v7, g7⟩ := evt X7
      rw [a0] at g7
      have ag7 := v7.2.2.1 s (show s < (eGr G s a).m from sm)
      have ev7 := v7.2.1 _ nlt
      obtain ⟨w1, w2, w3⟩ := X7.2.2.1
      rw [a0] at w1
      have n501 : mI S7 501 (X1.ad G.n) = nI (G.cn s) := by
        have := ev7.2.2.1
        rw [← nn, Gr.push_new, en] at this
        rw [← nn]; exact this
      refine ⟨g7, ag7.1, ev7.1, pa_i w1 ⟨w3.1, by rw [ag7.2.2, inR, w3.2.1]; exact vp_in_nI (by omega) (by decide), rfl, ?_⟩⟩
      rw [ag7.2.2, n501, nI_clamp (n := s) (by omega), nI_1]
      have X8 := X7.row (f := upd (eI S7 (A1 8)) s (nI (G.cn s + 1))) (Wr' := wNx e) (fun t ht => by
        have hw := w3.2.2 t ht
        by_cases z : t = s
        · subst z
          rw [show upd (eI S7 (A1 8)) t (nI (G.cn t + 1)) t = nI (G.cn t + 1) from if_pos rfl, wNx, es, updN_s, en]
          exact ⟨rfl, by omega⟩
        · rw [show upd (eI S7 (A1 8)) s (nI (G.cn s + 1)) t = eI S7 (A1 8) t from if_neg z, wNx, es, updN_o z, ep, ← hW]
          exact hw)
      obtain ⟨v8, g8⟩ := evt X8
      rw [a0] at g8
      have k8 : Keep (fun b => (F b).1 = i) S (rI S7 (A1 8) (upd (eI S7 (A1 8)) s (nI (G.cn s + 1)))) := k7.trN (Keep.rI (P := fun b => b = A1 8) Keep.rf rfl) (fun b hb z => by rw [← fr7 b hb, z, w2])
      have hR8 : KRk S (rI S7 (A1 8) (upd (eI S7 (A1 8)) s (nI (G.cn s + 1)))) := hR7
      have FO8 : FO (rI S7 (A1 8) (upd (eI S7 (A1 8)) s (nI (G.cn s + 1)))) F7 := FO7
      generalize rI S7 (A1 8) (upd (eI S7 (A1 8)) s (nI (G.cn s + 1))) = S8 at *
      -- the heads
      obtain ⟨b7, b8, b9⟩ := X8.2.2.2 1 (by omega)
      have c1s : updN (updN (giC A1 (eGr G s a)) 0 (alK (capF G.n) G.n)) (2 + s) (alK (capF (G.cn s)) (G.cn s)) 1 = A1 7 := by
        rw [updN_o (by omega), updN_o (by omega)]; rfl
      have l1s : updL (updL (giL X1 (eGr G s a) H) 0 ((List.range G.n).map X1.ad ++ [X1.ad G.n])) (2 + s) ((evL (eGr G s a) s).map X1.ad ++ [X1.ad G.n]) 1 = H.map X1.ad := by
        rw [updL, if_neg (by omega), updL, if_neg (by omega)]; rfl
      rw [c1s] at b8
      rw [c1s, l1s] at b9
      have b9' : AL S8 (A1 5) (updN (updN (giD A1) 0 d6) (2 + s) d7 1) (A1 7) 5 (H.map X1.ad) := b9
      have p604 : mR S8 604 (A 0) = some (A1 5) := a0 ▸ X8.2.1.2.1
      have hok := hE.gok hG0.ok
      have hHl := hH.len hok
      have q1 := alC_le (A1 7) H.length
      have q2 := alZ_22 (l := H.length) h7 (by omega)
      have u5 : cs + alC (capF G.n) G.n + alC (capF (G.cn s)) (G.cn s) + alC (A1 7) H.length ≤ enC G s := by unfold enC; omega
      have u6 : sl + alZ (capF G.n) G.n + alZ (capF (G.cn s)) (G.cn s) + alZ (A1 7) H.length ≤ enZ G s := by unfold enZ; omega
      rw [len1, len2]
      refine ⟨A1 5, updN (updN (giD A1) 0 d6) (2 + s) d7 1, A1 7, G.n, X1, (eGr G s a).push e (eGr G s a).m (eGr G s a).ag, H, ⟨g8, p604, b9', by omega, v8, nlt, rfl, fun y hy => ?_, ?_⟩, u5, u6, fun S9 hS9 => ⟨rfl, trivial, ⟨rfl, ?_⟩, u5, u6⟩⟩
      · have := ((hH.1 y).1 hy).1
        rw [nn] at this
        exact ⟨by omega, by omega⟩
      · refine List.Pairwise.imp_of_mem (fun {x y} hx hy hh => ?_) hH.2
        rw [hEi.key ((hH.1 x).1 hx).1, hEi.key ((hH.1 y).1 hy).1]; exact hh
      · obtain ⟨d9, c9, H2, f7, f8, f9, f10, f11⟩ := hS9
        have H2n : G.n ∈ H2 := (f10.1 G.n).2 (Or.inl rfl)
        have H2l : 0 < H2.length := List.length_pos_of_mem H2n
        have c90 : c9 ≠ 0 := by
          have := f7.2.2.2.1
          rw [List.length_map] at this; omega
        obtain ⟨F9, X9, FO9, fF9, K9⟩ := X8.add FO8 hi hm' (t0 := 1) (d' := d9) (c' := c9) (L' := H2.map X1.ad) (by show 1 < (eGr G s a).m + 2; omega) (by rw [c1s]; exact f8) f7 c90 (by rw [c1s]; exact f9)
        have hH2 : HdS ((eGr G s a).push e (eGr G s a).m (eGr G s a).ag) H2 := HdN.hd hH hok hEi (by rw [nn]; exact f10)
        have hgi := X9.gi (H := H2) ?_ ?_ ?_ ?_ ?_ hH2
        · refine ⟨F9, _, X1, _, T', H2, wNx e, hgi, FO9, fun b hb => (fF9 b (k8.1 b hb).1).trans (fr7 b hb), k8.trN K9 (fun b hb z => by rw [← fr7 b hb]; exact z), ⟨e, es, en, ep, eS, ec, ei, hEi, rfl, hgt, hst⟩, fun j hj j3 j6 j7 => (gxA_o hj j3 j6 j7).trans (hA j hj), had, hR8.tr k8 (KRk.ap b9' f8)⟩
        · rw [updN_o (by omega), updN_o (by omega), updN_s, Gr.push_n, nn]; rfl
        · rw [updL, if_neg (by omega), updL, if_neg (by omega), updL, if_pos rfl, Gr.push_n, nn, List.range_succ, List.map_append]; rfl
        · rw [updN_s]
          rcases f11 with q | ⟨q, w⟩
          · rw [q]; exact h7
          · rw [q]
            unfold gcap
            rcases h7 with z | z | z | z <;> rw [z] <;> simp
            omega
        · rw [updL, if_pos rfl]
        · intro t ht
          have ht : t < (eGr G s a).m := ht
          have n1 : (2 + t : Nat) ≠ 1 := by omega
          have n0 : (2 + t : Nat) ≠ 0 := by omega
          have e3 : ∀ (L : Nat → List Nat) (v : List Nat) (x y : Nat), x ≠ y → updL L y v x = L x := fun L v x y q => if_neg q
          have e4 : ∀ (L : Nat → List Nat) (v : List Nat) (x : Nat), updL L x v x = v := fun L v x => if_pos rfl
          rw [Gr.push_cn, Gr.push_evL, es, updN_o n1, e3 _ _ _ _ n1]
          by_cases z : s = t
          · subst z
            rw [updN_s, e4, if_pos rfl, if_pos rfl, eGr_cn, List.map_append, nn]
            exact ⟨rfl, rfl⟩
          · have n2 : (2 + t : Nat) ≠ 2 + s := by omega
            rw [updN_o n2, e3 _ _ _ _ n2, updN_o n0, e3 _ _ _ _ n0, if_neg z, if_neg z, List.append_nil, Nat.add_zero, giC, if_neg n0, if_neg n1, giL, if_neg n0, if_neg n1, show 2 + t - 2 = t by omega]
            exact ⟨rfl, rfl⟩
theorem u_gen (l : Launch) : Us l yX5_enter cX5_enter 11 none 7 165 6 T_gen := by
  intro Rc Rs av S cs sl K Kx h
  unfold T_gen at h
  split at h
  · rename_i g_o a_v r_o n_v ch ix_v
    obtain ⟨g, rfl, h_1⟩ := pa_of h
    obtain ⟨r, rfl, h_2⟩ := pa_of h_1
    obtain ⟨a, rfl, h_3⟩ := h_2
    obtain ⟨n, rfl, h_4⟩ := h_3
    obtain ⟨ix, rfl, h_5⟩ := h_4
    obtain ⟨F, i, A, X, G, T, H, W, P, oc, s, hp, hc, hs, hk⟩ := h_5
    refine ⟨(sp_gen g a r n ch ix F i A X G T H W P oc s), c_gen l g a r n ch ix F i A X G T H W P oc s, fun _ _ h9 => ⟨_, _, h9.1, (h9.2.1 ▸ (h9.2.2.1.1 0).1)⟩, ⟨rfl, hp⟩, hc, hs, fun S' h8 => by
      obtain ⟨-, h8⟩ := h8
      exact hk _ h8, fun _ _ q => q.elim⟩
  · exact h.elim
