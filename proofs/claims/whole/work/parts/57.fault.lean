/-! ===== Graph.faultOf ===== -/
noncomputable def ift {α : Type} (P : Prop) (a b : α) : α := @ite α P (Classical.propDecidable P) a b
theorem ift_t {α : Type} {P : Prop} {a b : α} (h : P) : ift P a b = a := if_pos h
theorem ift_f {α : Type} {P : Prop} {a b : α} (h : ¬ P) : ift P a b = b := if_neg h
def hasAg (G : Gr) (a : Nat) : Prop := ∃ s, s < G.m ∧ G.ag s = a
/-- the fault of an event: its agent, its number, its index, its parents, whether it inserts -/
noncomputable def fltV (G : Gr) (a nu x : Nat) (P : List Nat) (ins : Prop) : Nat := ift (relP G P) 6 (ift (∃ s, s < G.m ∧ G.ag s = a ∧ G.jn P s ≠ nu) 6 (ift (c1 G (G.jn P) G.n < x ∨ (x = c1 G (G.jn P) G.n ∧ ¬ ins)) 6 (ift (G.n + 1 ≤ 8192 ∧ (hasAg G a ∨ G.m < 16)) 0 7)))
def foP (S S' : MM) (F : Nat → Nat × Nat) (i : Nat) (A : Nat → Nat) (X : GX) (G : Gr) (T : Tr) (H : List Nat) (P : List Nat) (f : Nat) : Prop := ∃ W', GI S' F i A X G T H W' ∧ Keep (fun b => (F b).1 = i) S S' ∧ (f = 0 → W' = G.jn P)
/-- the events of an agent -/
def agE (G : Gr) (a : Nat) : List Nat := (List.range G.n).filter (fun k => decide (G.ag (G.ev k).sl = a))
theorem agE_sl {G : Gr} (h : G.ok) {s : Nat} (hs : s < G.m) : agE G (G.ag s) = evL G s := by
  refine List.filter_congr (fun k hk => ?_)
  have hk := List.mem_range.1 hk
  rw [Bool.eq_iff_iff, decide_eq_true_eq, decide_eq_true_eq]
  exact ⟨fun e => h.ag2 _ _ (h.sl1 k hk) hs e, fun e => by rw [e]⟩
theorem agE_no {G : Gr} (h : G.ok) {a : Nat} (hn : ¬ hasAg G a) : agE G a = [] := by
  refine List.filter_eq_nil_iff.2 (fun k hk z => hn ?_)
  exact ⟨_, h.sl1 k (List.mem_range.1 hk), of_decide_eq_true z⟩
theorem GI.agt {S : MM} {F : Nat → Nat × Nat} {i : Nat} {A : Nat → Nat} {X : GX} {G : Gr} {T : Tr} {H : List Nat} {W : Nat → Nat} (h : GI S F i A X G T H W) : AgT S (A 0) (A 4) (fun a => (agE G a).map X.ad) := by
  obtain ⟨c1, c2, c3, c4, c5, c6⟩ := h 3
  refine ⟨(h 0).1, c1, c2, c4, fun j hj => ?_⟩
  by_cases q : hasAg G j
  · obtain ⟨s, hs, rfl⟩ := q
    obtain ⟨a1, a2, a3, a4, a5⟩ := h 12 s hs
    exact Or.inr ⟨X.aa s, A (20 + 2 * s), A (21 + 2 * s), capF (G.cn s), c5 s hs, (h.ev.2.2.1 s hs).1, a2, by show AL S _ _ _ 5 ((agE G (G.ag s)).map X.ad); rw [agE_sl h.ok hs]; exact a5⟩
  · exact Or.inl ⟨c6 j hj (fun s hs e => q ⟨s, hs, e⟩), by show (agE G j).map X.ad = []; rw [agE_no h.ok q]; rfl⟩
theorem GI.agr {S : MM} {F : Nat → Nat × Nat} {i : Nat} {A : Nat → Nat} {X : GX} {G : Gr} {T : Tr} {H : List Nat} {W : Nat → Nat} (h : GI S F i A X G T H W) {j : Nat} (hj : j < 256) : eR S (A 4) j ≠ none ↔ hasAg G j := by
  obtain ⟨c1, c2, c3, c4, c5, c6⟩ := h 3
  constructor
  · intro z
    by_cases q : hasAg G j
    · exact q
    · exact absurd (c6 j hj (fun s hs e => q ⟨s, hs, e⟩)) z
  · rintro ⟨s, hs, rfl⟩ z
    rw [c5 s hs] at z; cases z
theorem lgc {a b : Nat} (ha : a < 9223372036854775807) (hb : b < 9223372036854775807) : (0 < lg_cmp (lN a) (lN b) ↔ b < a) ∧ (lg_cmp (lN a) (lN b) = 0 ↔ a = b) :=
  ⟨(lg_cmp_gt _ _).trans (lNk hb ha).1, (lg_cmp_eq _ _).trans (lNk ha hb).2.2⟩
def I_f1 (g a nu r n : Nat) (bb : Int32) (x : Int64) (A : Nat → Nat) (G : Gr) (P : List Nat) (S : MM) (t : Nat) : KT := fun lo st S1 cs sl => ∃ j f, j + t = P.length + 1 ∧ j ≤ P.length ∧ ¬ relP G P ∧ lo = [(8, .inl (nI j)), (0, .inr (.inr (some g))), (1, .inl (nI a)), (2, .inl (nI nu)), (3, .inr (.inr (some r))), (4, .inl (nI n)), (5, .inl bb), (6, .inr (.inl x))] ∧ st = [] ∧ S1 = rI S (A 9) f ∧ (∀ s, s < 16 → f s = nI (G.jn (P.take j) s)) ∧ cs = 0 ∧ sl = 0
def I_f2 (g a nu : Nat) (bb : Int32) (x : Int64) (A : Nat → Nat) (G : Gr) (P : List Nat) (S : MM) (t : Nat) : KT := fun lo st S1 cs sl => ∃ f, t = 0 ∧ ¬ relP G P ∧ ¬ (∃ s, s < G.m ∧ G.ag s = a ∧ G.jn P s ≠ nu) ∧ lo = [(0, .inr (.inr (some g))), (1, .inl (nI a)), (5, .inl bb), (6, .inr (.inl x))] ∧ st = [] ∧ S1 = rI S (A 9) f ∧ (∀ s, s < 16 → f s = nI (G.jn P s)) ∧ cs = 0 ∧ sl = 0
def T_gfo : TR := fun Rc Rs av S cs sl K _Kx => match av with
  | [.inr (.inr g_o), .inl a_v, .inl nu_v, .inr (.inr r_o), .inl n_v, .inl bb, .inr (.inl x)] => pa g_o fun g => (pa r_o fun r => (∃ (a : Nat), a_v = nI a ∧ (∃ (nu : Nat), nu_v = nI nu ∧ (∃ (n : Nat), n_v = nI n ∧ (∃ (F : Nat → Nat × Nat) (i : Nat) (A : Nat → Nat) (X : GX) (G : Gr) (T : Tr) (H : List Nat) (W : Nat → Nat) (P : List Nat) (ins : Prop) (xn : Nat), (g = A 0 ∧ GI S F i A X G T H W ∧ RwE S X G r P ∧ (F r).1 ≠ i ∧ n = P.length ∧ a < 256 ∧ nu < 2147483648 ∧ bb = tf ins ∧ x = lN xn ∧ xn < 4611686018427387904) ∧ cs ≤ Rc ∧ sl ≤ Rs ∧ (∀ (S' : MM), (foP S S' F i A X G T H P (fltV G a nu xn P ins)) → K (some (.inl (nI (fltV G a nu xn P ins)))) S' cs sl))))))
  | _ => False
def sp_gfo (g : Nat) (a : Nat) (nu : Nat) (r : Nat) (n : Nat) (bb : Int32) (x : Int64) (F : Nat → Nat × Nat) (i : Nat) (A : Nat → Nat) (X : GX) (G : Gr) (T : Tr) (H : List Nat) (W : Nat → Nat) (P : List Nat) (ins : Prop) (xn : Nat) : Sp := (fun av S => av = [.inr (.inr (some g)), .inl (nI a), .inl (nI nu), .inr (.inr (some r)), .inl (nI n), .inl bb, .inr (.inl x)] ∧ (g = A 0 ∧ GI S F i A X G T H W ∧ RwE S X G r P ∧ (F r).1 ≠ i ∧ n = P.length ∧ a < 256 ∧ nu < 2147483648 ∧ bb = tf ins ∧ x = lN xn ∧ xn < 4611686018427387904), fun _ S => 0, fun _ S => 0, fun _ S rv S' => rv = (some (.inl (nI (fltV G a nu xn P ins)))) ∧ (foP S S' F i A X G T H P (fltV G a nu xn P ins)), fun _ _ _ _ => False)
def tX5_faultOf : CD := [(0, .aload_n 3), (1, .iload 4), (3, .invokestatic 84), (6, .ifCond .eq 6), (9, .bipush 6), (11, .ireturn), (12, .aload_n 0), (13, .getfield 50), (16, .iconst 0), (17, .invokestatic 88), (20, .iconst 0), (21, .istore 8), (23, .iload 8), (25, .iload 4), (27, .if_icmp .ge 17), (30, .aload_n 0), (31, .aload_n 3), (32, .iload 8), (34, .aaload), (35, .invokevirtual 94), (38, .iinc 8 1), (41, .goto (-18)), (44, .aload_n 0), (45, .getfield 32), (48, .iload_n 1), (49, .aaload), (50, .astore 8), (52, .aload 8), (54, .ifnull 20), (57, .aload_n 0), (58, .getfield 50), (61, .aload 8), (63, .getfield 98), (66, .iaload), (67, .iload_n 2), (68, .if_icmp .eq 6), (71, .bipush 6), (73, .ireturn), (74, .aload_n 0), (75, .invokevirtual 101), (78, .lload 6), (80, .aload_n 0), (81, .getfield 56), (84, .i2l), (85, .lcmp), (86, .ifCond .gt 19), (89, .lload 6), (91, .aload_n 0), (92, .getfield 56), (95, .i2l), (96, .lcmp), (97, .ifCond .ne 11), (100, .iload 5), (102, .ifCond .ne 6), (105, .bipush 6), (107, .ireturn), (108, .aload_n 0), (109, .iload_n 1), (110, .iconst 1), (111, .invokevirtual 104), (114, .ifCond .eq 7), (117, .iconst 0), (118, .goto 5), (121, .bipush 7), (123, .ireturn)]
set_option maxRecDepth 100000 in
theorem kX5_faultOf : chk cX5_faultOf tX5_faultOf = true := by decide +kernel
theorem vX5_faultOf_84 : ∀ w ∈ ([.methodLink RX5 84 yX5_areRelated, .static yX5_areRelated, .initialized yX5_areRelated.cls, .code yX5_areRelated cX5_areRelated 4 (some .boolean)] : List Cond), w ∈ lw_good := List.forall_mem_cons.mpr ⟨mgd 1571 (by decide +kernel) (by decide +kernel), List.forall_mem_cons.mpr ⟨mgd 1572 (by decide +kernel) (by decide +kernel), List.forall_mem_cons.mpr ⟨mgd 125 (by decide +kernel) (by decide +kernel), List.forall_mem_cons.mpr ⟨mgd 1573 (by decide +kernel) (by decide +kernel), fun _ h => absurd h List.not_mem_nil⟩⟩⟩⟩
theorem vX5_faultOf_88 : ∀ w ∈ ([.methodLink RX5 88 yJ7_fill_53178, .static yJ7_fill_53178, .initialized yJ7_fill_53178.cls, .code yJ7_fill_53178 cJ7_fill_53178 4 none] : List Cond), w ∈ lw_good := List.forall_mem_cons.mpr ⟨mgd 878 (by decide +kernel) (by decide +kernel), List.forall_mem_cons.mpr ⟨mgd 604 (by decide +kernel) (by decide +kernel), List.forall_mem_cons.mpr ⟨mgd 135 (by decide +kernel) (by decide +kernel), List.forall_mem_cons.mpr ⟨mgd 605 (by decide +kernel) (by decide +kernel), fun _ h => absurd h List.not_mem_nil⟩⟩⟩⟩
theorem vX5_faultOf_94 : ∀ w ∈ ([.methodLink RX5 94 yX5_wantWith, .instanceMethod yX5_wantWith, .selects yX5_wantWith.cls yX5_wantWith yX5_wantWith, .initialized yX5_wantWith.cls, .code yX5_wantWith cX5_wantWith 3 none] : List Cond), w ∈ lw_good := List.forall_mem_cons.mpr ⟨mgd 879 (by decide +kernel) (by decide +kernel), List.forall_mem_cons.mpr ⟨mgd 881 (by decide +kernel) (by decide +kernel), List.forall_mem_cons.mpr ⟨mgd 3 (by decide +kernel) (by decide +kernel), List.forall_mem_cons.mpr ⟨mgd 125 (by decide +kernel) (by decide +kernel), List.forall_mem_cons.mpr ⟨mgd 882 (by decide +kernel) (by decide +kernel), fun _ h => absurd h List.not_mem_nil⟩⟩⟩⟩⟩
theorem vX5_faultOf_101 : ∀ w ∈ ([.methodLink RX5 101 yX5_showWanted, .instanceMethod yX5_showWanted, .selects yX5_showWanted.cls yX5_showWanted yX5_showWanted, .initialized yX5_showWanted.cls, .code yX5_showWanted cX5_showWanted 3 none] : List Cond), w ∈ lw_good := List.forall_mem_cons.mpr ⟨mgd 890 (by decide +kernel) (by decide +kernel), List.forall_mem_cons.mpr ⟨mgd 892 (by decide +kernel) (by decide +kernel), List.forall_mem_cons.mpr ⟨mgd 4 (by decide +kernel) (by decide +kernel), List.forall_mem_cons.mpr ⟨mgd 125 (by decide +kernel) (by decide +kernel), List.forall_mem_cons.mpr ⟨mgd 893 (by decide +kernel) (by decide +kernel), fun _ h => absurd h List.not_mem_nil⟩⟩⟩⟩⟩
theorem vX5_faultOf_104 : ∀ w ∈ ([.methodLink RX5 104 yX5_hasRoom, .instanceMethod yX5_hasRoom, .selects yX5_hasRoom.cls yX5_hasRoom yX5_hasRoom, .initialized yX5_hasRoom.cls, .code yX5_hasRoom cX5_hasRoom 3 (some .boolean)] : List Cond), w ∈ lw_good := List.forall_mem_cons.mpr ⟨mgd 1575 (by decide +kernel) (by decide +kernel), List.forall_mem_cons.mpr ⟨mgd 858 (by decide +kernel) (by decide +kernel), List.forall_mem_cons.mpr ⟨mgd 859 (by decide +kernel) (by decide +kernel), List.forall_mem_cons.mpr ⟨mgd 125 (by decide +kernel) (by decide +kernel), List.forall_mem_cons.mpr ⟨mgd 860 (by decide +kernel) (by decide +kernel), fun _ h => absurd h List.not_mem_nil⟩⟩⟩⟩⟩
set_option maxRecDepth 100000 in
set_option maxHeartbeats 2000000 in
theorem c_gfo (l : Launch) : ∀ (g : Nat) (a : Nat) (nu : Nat) (r : Nat) (n : Nat) (bb : Int32) (x : Int64) (F : Nat → Nat × Nat) (i : Nat) (A : Nat → Nat) (X : GX) (G : Gr) (T : Tr) (H : List Nat) (W : Nat → Nat) (P : List Nat) (ins : Prop) (xn : Nat), Ct l yX5_faultOf cX5_faultOf 9 (some .int) 5 109 (sp_gfo g a nu r n bb x F i A X G T H W P ins xn) := by
  intro g a nu r n bb x F i A X G T H W P ins xn
  refine Ct.of (fX5, nX5, aX5, iX5, lX5, [(84, 2, 2, 1, T_garl), (88, 2, 2, 0, T_fillI), (94, 0, 2, 0, T_gww), (101, 0, 1, 0, T_gsw), (104, 0, 3, 1, T_ghr)], qX5, gX5, []) false tX5_faultOf (fun _ S => look [(23, ([8,0,1,2,3,4,5,6], I_f1 g a nu r n bb x A G P S)), (74, ([0,1,5,6], I_f2 g a nu bb x A G P S))]) (by decide) (by decide) kX5_faultOf ⟨_, _, rfl⟩ fX5_ok nX5_ok aX5_ok iX5_ok lX5_ok (fun p e R s m args below meth c Q D cy z r A C hR1 hR2 => List.forall_mem_cons.mpr ⟨cOK_use (fun _ _ _ _ _ _ _ _ h => let ⟨sp, h1, _, h3⟩ := u_garl l _ _ _ _ _ _ _ _ h; ⟨sp, cOK_S C h1 vX5_faultOf_84 ⟨by decide, by decide, by decide +kernel⟩ ⟨by rw [hR1]; decide, by rw [hR2]; decide⟩, h3⟩), List.forall_mem_cons.mpr ⟨cOK_use (fun _ _ _ _ _ _ _ _ h => let ⟨sp, h1, _, h3⟩ := u_fillI l _ _ _ _ _ _ _ _ h; ⟨sp, cOK_S C h1 vX5_faultOf_88 ⟨by decide, by decide, by decide +kernel⟩ ⟨by rw [hR1]; decide, by rw [hR2]; decide⟩, h3⟩), List.forall_mem_cons.mpr ⟨cOK_use (fun _ _ _ _ _ _ _ _ h => let ⟨sp, h1, h2, h3⟩ := u_gww l _ _ _ _ _ _ _ _ h; ⟨sp, cOK_V C h1 vX5_faultOf_94 ⟨by decide, by decide, by decide +kernel⟩ ⟨by rw [hR1]; decide, by rw [hR2]; decide⟩ (k := 6) (T := TX5) (N := 12) rfl (by decide) h2, h3⟩), List.forall_mem_cons.mpr ⟨cOK_use (fun _ _ _ _ _ _ _ _ h => let ⟨sp, h1, h2, h3⟩ := u_gsw l _ _ _ _ _ _ _ _ h; ⟨sp, cOK_V C h1 vX5_faultOf_101 ⟨by decide, by decide, by decide +kernel⟩ ⟨by rw [hR1]; decide, by rw [hR2]; decide⟩ (k := 6) (T := TX5) (N := 12) rfl (by decide) h2, h3⟩), List.forall_mem_cons.mpr ⟨cOK_use (fun _ _ _ _ _ _ _ _ h => let ⟨sp, h1, h2, h3⟩ := u_ghr l _ _ _ _ _ _ _ _ h; ⟨sp, cOK_V C h1 vX5_faultOf_104 ⟨by decide, by decide, by decide +kernel⟩ ⟨by rw [hR1]; decide, by rw [hR2]; decide⟩ (k := 6) (T := TX5) (N := 12) rfl (by decide) h2, h3⟩), fun _ h => absurd h List.not_mem_nil⟩⟩⟩⟩⟩) qX5_ok gX5_ok rfl ?_ ?_
  · rintro _ S ⟨rfl, hp⟩
    refine ⟨Nat.le_of_ble_eq_true rfl, 300, ?_⟩
    show (2 = 2 ∧ (∃ (n_1 : Nat), nI n = nI n_1 ∧ (∃ (X_2 : GX) (G_3 : Gr) (P_4 : List Nat), (EvT S X_2 G_3 ∧ RwE S X_2 G_3 r P_4 ∧ n_1 = P_4.length) ∧ 0 ≤ 0 ∧ 0 ≤ 0 ∧ ((((tf (relP G_3 P_4)) = 0 → (isO S 6 g ∧ (2 = 2 ∧ ((pa (mR S 607 g) fun a_6 => ((isO S 17 a_6 ∧ mN S a_6 < 2147483648) ∧ 0 ≤ 0 ∧ 0 ≤ 0 ∧ ((∃ k1, I_f1 g a nu r n bb x A G P S k1 [(8, .inl (0 : Int32)), (0, .inr (.inr (some g))), (1, .inl (nI a)), (2, .inl (nI nu)), (3, .inr (.inr (some r))), (4, .inl (nI n)), (5, .inl bb), (6, .inr (.inl x))] [] (rI S a_6 (fillF (eI S a_6) (mN S a_6) (0 : Int32))) 0 0)))))))) ∧ (¬ (tf (relP G_3 P_4)) = 0 → (([] : List MV) = [] ∧ mret (some .int) (sp_gfo g a nu r n bb x F i A X G T H W P ins xn) [.inr (.inr (some g)), .inl (nI a), .inl (nI nu), .inr (.inr (some r)), .inl (nI n), .inl bb, .inr (.inl x)] S (some (.inl (6 : Int32))) S 0 0)))))))
    obtain ⟨rfl, hG, hR, hr, rfl, ha, hnu, rfl, rfl, hxn⟩ := hp
    refine ⟨rfl, P.length, rfl, X, G, P, ⟨hG.ev, hR, rfl⟩, Nat.le_refl _, Nat.le_refl _, fun hz => ?_, fun hz => ?_⟩
    · have hrel : ¬ relP G P := fun w => by rw [tf_t w] at hz; exact absurd hz (by decide)
      refine ⟨(hG 0).1, rfl, pa_i (hG 8).1 ⟨⟨(hG 8).2.2.1, by rw [(hG 8).2.2.2]; decide⟩, Nat.le_refl _, Nat.le_refl _, P.length + 1, 0, _, by omega, by omega, hrel, rfl, rfl, rfl, fun s hs => ?_, rfl, rfl⟩⟩
      rw [(hG 8).2.2.2, fillF_in hs]; rfl
    · have hrel : relP G P := Classical.byContradiction (fun w => hz (tf_f w))
      have e6 : fltV G a nu xn P ins = 6 := by rw [fltV, ift_t hrel]
      exact ⟨rfl, trivial, ⟨by rw [e6]; rfl, W, hG, Keep.rf, fun z => by rw [e6] at z; cases z⟩, Nat.le_refl _, Nat.le_refl _⟩
  · intro av S hpre pc I hI k lo st S1 cs sl h
    obtain ⟨rfl, hp⟩ := hpre
    have hm := look_in hI
    simp only [List.mem_cons, List.not_mem_nil, or_false] at hm
    rcases hm with hm | hm
    · cases hm
      obtain ⟨j, f, hj, hj2, hrel, rfl, rfl, rfl, hf, rfl, rfl⟩ := h
      refine ⟨300, ?_⟩
      show (((nI n) ≤ (nI j) → (isO (rI S (A 9) f) 6 g ∧ (pa (mR (rI S (A 9) f) 602 g) fun a_1 => a_1 ∈ mL (rI S (A 9) f) ∧ ¬ mK (rI S (A 9) f) a_1 < 21 ∧ mK (rI S (A 9) f) a_1 < 29 ∧ inR (rI S (A 9) f) a_1 (nI a) ∧ (((eR (rI S (A 9) f) a_1 (nI a).toNatClampNeg) = none → (∃ k1, k1 < k ∧ I_f2 g a nu bb x A G P S k1 [(0, .inr (.inr (some g))), (1, .inl (nI a)), (5, .inl bb), (6, .inr (.inl x))] [] (rI S (A 9) f) 0 0)) ∧ (∀ w_2, (eR (rI S (A 9) f) a_1 (nI a).toNatClampNeg) = some w_2 → (isO (rI S (A 9) f) 6 g ∧ (pa (eR (rI S (A 9) f) a_1 (nI a).toNatClampNeg) fun a_3 => isO (rI S (A 9) f) 1 a_3 ∧ (pa (mR (rI S (A 9) f) 607 g) fun a_4 => ∃ v_5 : Int32, (isO (rI S (A 9) f) 17 a_4 ∧ inR (rI S (A 9) f) a_4 (mI (rI S (A 9) f) 101 a_3) ∧ v_5 = eI (rI S (A 9) f) a_4 (mI (rI S (A 9) f) 101 a_3).toNatClampNeg ∨ a_4 = (mQ (rI S (A 9) f)).1 ∧ vp_in (mI (rI S (A 9) f) 101 a_3) 16 ∧ v_5 = mRem (mI (rI S (A 9) f) 101 a_3).toNatClampNeg) ∧ ((v_5 = (nI nu) → (∃ k1, k1 < k ∧ I_f2 g a nu bb x A G P S k1 [(0, .inr (.inr (some g))), (1, .inl (nI a)), (5, .inl bb), (6, .inr (.inl x))] [] (rI S (A 9) f) 0 0)) ∧ (¬ v_5 = (nI nu) → (([] : List MV) = [] ∧ mret (some .int) (sp_gfo g a nu r n bb x F i A X G T H W P ins xn) [.inr (.inr (some g)), .inl (nI a), .inl (nI nu), .inr (.inr (some r)), .inl (nI n), .inl bb, .inr (.inl x)] S (some (.inl (6 : Int32))) (rI S (A 9) f) 0 0))))))))))) ∧ (¬ (nI n) ≤ (nI j) → (r ∈ mL (rI S (A 9) f) ∧ ¬ mK (rI S (A 9) f) r < 21 ∧ mK (rI S (A 9) f) r < 29 ∧ inR (rI S (A 9) f) r (nI j) ∧ (0 = 0 ∧ ((pa (eR (rI S (A 9) f) r (nI j).toNatClampNeg) fun a_6 => (∃ (X_7 : GX) (G_8 : Gr) (wa_9 ke_10 : Nat) (w_11 : Nat → Nat), (EvT (rI S (A 9) f) X_7 G_8 ∧ isO (rI S (A 9) f) 6 g ∧ mR (rI S (A 9) f) 607 g = some wa_9 ∧ WR (rI S (A 9) f) wa_9 w_11 ∧ mI (rI S (A 9) f) 603 g = nI G_8.m ∧ ke_10 < G_8.n ∧ a_6 = X_7.ad ke_10 ∧ wa_9 ≠ X_7.bf ke_10) ∧ 0 ≤ 0 ∧ 0 ≤ 0 ∧ (∀ (S_12 : MM), (∃ fw, S_12 = rI (rI S (A 9) f) wa_9 fw ∧ ∀ s, s < 16 → fw s = nI (max (w_11 s) (G_8.full ke_10 s))) → (∃ k1, k1 < k ∧ I_f1 g a nu r n bb x A G P S k1 [(8, .inl ((nI j) + (1 : Int32))), (0, .inr (.inr (some g))), (1, .inl (nI a)), (2, .inl (nI nu)), (3, .inr (.inr (some r))), (4, .inl (nI n)), (5, .inl bb), (6, .inr (.inl x))] [] S_12 0 0)))))))))
      obtain ⟨rfl, hG, hR, hr, rfl, ha, hnu, rfl, rfl, hxn⟩ := hp
      have hG1 : GI (rI S (A 9) f) F i A X G T H W := hG.row (Or.inl rfl)
      have kW : Keep (fun b => (F b).1 = i) S (rI S (A 9) f) := Keep.rI Keep.rf (F1 (hG 8).2.1)
      have e9 : eI (rI S (A 9) f) (A 9) = f := va_up_self _ _ _
      have hl := hR.2.1
      have hl2 := hR.2.2.1
      have pn : ∀ p, p ∈ P → p < G.n := fun p hp9 => by
        obtain ⟨j9, h9, e9⟩ := List.getElem_of_mem hp9
        have := (hR.2.2.2 j9 h9).2
        rw [getD_el h9, e9] at this; exact this
      have jb : ∀ j s, G.jn (P.take j) s ≤ 100000 := fun j s => by
        have a := Gr.jn_cnt hG.ok (fun p hp9 => pn p (List.mem_of_mem_take hp9)) s (P := P.take j)
        have b := Gr.cnt_le (G := G) G.n s
        have c := hG.ok.hn
        rw [Gr.cn] at a
        omega
      obtain ⟨c1, c2, c3, c4, c5, c6⟩ := hG1 3
      have gm := hG.ok.hm
      refine if_le (by omega) (by omega) (fun z => ?_) (fun z => ?_)
      · rw [List.take_of_length_le z] at hf
        have hj9 : j = P.length := by omega
        have jbP : ∀ s, G.jn P s ≤ 100000 := fun s => by have := jb P.length s; rw [List.take_of_length_le (Nat.le_refl _)] at this; exact this
        rw [nI_clamp (n := a) (by omega)]
        refine ⟨(hG1 0).1, pa_i c1 ⟨c2.1, by rw [c2.2]; decide, by rw [c2.2]; decide, vp_in_nI (by rw [c4]; exact ha) (by rw [c4]; decide), fun hn => ⟨0, by omega, f, rfl, hrel, ?_, rfl, rfl, rfl, hf, rfl, rfl⟩, fun w hw => ?_⟩⟩
        · rintro ⟨s, s1, s2, -⟩
          rw [← s2, c5 s s1] at hn; cases hn
        · obtain ⟨s, s1, s2⟩ := (hG1.agr ha).1 (by rw [hw]; exact fun z => by cases z)
          have s3 := c5 s s1
          rw [s2, hw] at s3
          have s3 : w = X.aa s := Option.some.inj s3
          subst s3
          have ag := hG1.ev.2.2.1 s s1
          refine ⟨(hG1 0).1, pa_i hw ⟨ag.1, pa_i (hG1 8).1 ⟨f s, Or.inl ⟨(hG1 8).2.2.1, ?_, ?_⟩, ?_⟩⟩⟩
          · rw [ag.2.2, inR, (hG1 8).2.2.2]; exact vp_in_nI (by omega) (by decide)
          · rw [ag.2.2, nI_clamp (by omega), e9]
          · rw [hf s (by omega)]
            have jbs := jbP s
            refine if_eq (by omega) hnu (fun q => ⟨0, by omega, f, rfl, hrel, ?_, rfl, rfl, rfl, hf, rfl, rfl⟩) (fun q => ?_)
            · rintro ⟨t, t1, t2, t3⟩
              have := hG.ok.ag2 t s t1 s1 (t2.trans s2.symm)
              subst this; exact t3 q
            · have e6 : fltV G a nu xn P ins = 6 := by rw [fltV, ift_f hrel, ift_t ⟨s, s1, s2, q⟩]
              exact ⟨rfl, trivial, ⟨by rw [e6]; rfl, W, hG1, kW, fun z => by rw [e6] at z; cases z⟩, Nat.le_refl _, Nat.le_refl _⟩
      · obtain ⟨r1, r2, r3, r4⟩ := hR
        obtain ⟨r5, r6⟩ := r4 j z
        have e8 : (nI j).toNatClampNeg = j := nI_clamp (by omega)
        rw [e8]
        refine ⟨r1.1, by rw [show mK (rI S (A 9) f) r = mK S r from rfl, r1.2]; decide, by rw [show mK (rI S (A 9) f) r = mK S r from rfl, r1.2]; decide, vp_in_nI (show j < mN S r by omega) (show mN S r < 2147483648 by omega), rfl, pa_i (show eR (rI S (A 9) f) r j = _ from r5) ⟨X, G, A 9, P.getD j 0, G.jn (P.take j), ⟨hG1.ev, (hG1 0).1, (hG1 8).1, ⟨(hG1 8).2.2.1, (hG1 8).2.2.2, fun s hs => ⟨by rw [e9]; exact hf s hs, jb j s⟩⟩, hG1 4, r6, rfl, fun e => (hG1.bfr r6).2.1 e.symm⟩, Nat.le_refl _, Nat.le_refl _, fun S2 h => ?_⟩⟩
        obtain ⟨f2, rfl, hf2⟩ := h
        refine ⟨k - 1, by omega, j + 1, f2, by omega, by omega, hrel, by rw [nI_1], rfl, rI_rI, fun s hs => ?_, rfl, rfl⟩
        rw [hf2 s hs, List.take_succ_eq_append_getElem z, Gr.jn_snoc, getD_el z]
    · cases hm
      obtain ⟨f, rfl, hrel, hag, rfl, rfl, rfl, hf, rfl, rfl⟩ := h
      refine ⟨300, ?_⟩
      show (0 = 0 ∧ (∃ (rt_1 tk_2 d_3 c_4 sh_5 wa_6 : Nat) (X_7 : GX) (G_8 : Gr) (W0_9 W_10 : Nat → Nat), (ShP (rI S (A 9) f) X_7 G_8 g rt_1 tk_2 d_3 c_4 sh_5 wa_6 W0_9 ∧ WR (rI S (A 9) f) wa_6 W_10) ∧ 0 ≤ 0 ∧ 0 ≤ 0 ∧ (∀ (S_11 : MM), (swP (rI S (A 9) f) S_11 X_7 G_8 g rt_1 sh_5 wa_6 W0_9 W_10) → (isO S_11 6 g ∧ ((0 < (lg_cmp x ((mI S_11 609 g).toInt64)) → (([] : List MV) = [] ∧ mret (some .int) (sp_gfo g a nu r n bb x F i A X G T H W P ins xn) [.inr (.inr (some g)), .inl (nI a), .inl (nI nu), .inr (.inr (some r)), .inl (nI n), .inl bb, .inr (.inl x)] S (some (.inl (6 : Int32))) S_11 0 0)) ∧ (¬ 0 < (lg_cmp x ((mI S_11 609 g).toInt64)) → (isO S_11 6 g ∧ ((¬ (lg_cmp x ((mI S_11 609 g).toInt64)) = 0 → (0 = 0 ∧ (∃ (i_12 : Nat), nI a = nI i_12 ∧ (∃ (n_13 : Nat), (1 : Int32) = nI n_13 ∧ (∃ (ar_14 tk_15 d_16 c_17 m_18 : Nat) (Lf_19 : Nat → List Nat) (L_20 : List Nat), (AgT S_11 g ar_14 Lf_19 ∧ i_12 < 256 ∧ mR S_11 601 g = some tk_15 ∧ AL S_11 tk_15 d_16 c_17 5 L_20 ∧ mI S_11 603 g = nI m_18 ∧ m_18 < 2147483648 ∧ n_13 ≤ 1000000) ∧ 0 ≤ 0 ∧ 0 ≤ 0 ∧ ((((tf (L_20.length + n_13 ≤ 8192 ∧ (eR S_11 ar_14 i_12 ≠ none ∨ m_18 < 16))) = 0 → (([] : List MV) = [] ∧ mret (some .int) (sp_gfo g a nu r n bb x F i A X G T H W P ins xn) [.inr (.inr (some g)), .inl (nI a), .inl (nI nu), .inr (.inr (some r)), .inl (nI n), .inl bb, .inr (.inl x)] S (some (.inl (7 : Int32))) S_11 0 0)) ∧ (¬ (tf (L_20.length + n_13 ≤ 8192 ∧ (eR S_11 ar_14 i_12 ≠ none ∨ m_18 < 16))) = 0 → (([] : List MV) = [] ∧ mret (some .int) (sp_gfo g a nu r n bb x F i A X G T H W P ins xn) [.inr (.inr (some g)), .inl (nI a), .inl (nI nu), .inr (.inr (some r)), .inl (nI n), .inl bb, .inr (.inl x)] S (some (.inl (0 : Int32))) S_11 0 0))))))))) ∧ ((lg_cmp x ((mI S_11 609 g).toInt64)) = 0 → ((¬ bb = 0 → (0 = 0 ∧ (∃ (i_22 : Nat), nI a = nI i_22 ∧ (∃ (n_23 : Nat), (1 : Int32) = nI n_23 ∧ (∃ (ar_24 tk_25 d_26 c_27 m_28 : Nat) (Lf_29 : Nat → List Nat) (L_30 : List Nat), (AgT S_11 g ar_24 Lf_29 ∧ i_22 < 256 ∧ mR S_11 601 g = some tk_25 ∧ AL S_11 tk_25 d_26 c_27 5 L_30 ∧ mI S_11 603 g = nI m_28 ∧ m_28 < 2147483648 ∧ n_23 ≤ 1000000) ∧ 0 ≤ 0 ∧ 0 ≤ 0 ∧ ((((tf (L_30.length + n_23 ≤ 8192 ∧ (eR S_11 ar_24 i_22 ≠ none ∨ m_28 < 16))) = 0 → (([] : List MV) = [] ∧ mret (some .int) (sp_gfo g a nu r n bb x F i A X G T H W P ins xn) [.inr (.inr (some g)), .inl (nI a), .inl (nI nu), .inr (.inr (some r)), .inl (nI n), .inl bb, .inr (.inl x)] S (some (.inl (7 : Int32))) S_11 0 0)) ∧ (¬ (tf (L_30.length + n_23 ≤ 8192 ∧ (eR S_11 ar_24 i_22 ≠ none ∨ m_28 < 16))) = 0 → (([] : List MV) = [] ∧ mret (some .int) (sp_gfo g a nu r n bb x F i A X G T H W P ins xn) [.inr (.inr (some g)), .inl (nI a), .inl (nI nu), .inr (.inr (some r)), .inl (nI n), .inl bb, .inr (.inl x)] S (some (.inl (0 : Int32))) S_11 0 0))))))))) ∧ (bb = 0 → (([] : List MV) = [] ∧ mret (some .int) (sp_gfo g a nu r n bb x F i A X G T H W P ins xn) [.inr (.inr (some g)), .inl (nI a), .inl (nI nu), .inr (.inr (some r)), .inl (nI n), .inl bb, .inr (.inl x)] S (some (.inl (6 : Int32))) S_11 0 0))))))))))))
      obtain ⟨rfl, hG, hR, hr, rfl, ha, hnu, rfl, rfl, hxn⟩ := hp
      have hG1 : GI (rI S (A 9) f) F i A X G T H W := hG.row (Or.inl rfl)
      have kW : Keep (fun b => (F b).1 = i) S (rI S (A 9) f) := Keep.rI Keep.rf (F1 (hG 8).2.1)
      have e9 : eI (rI S (A 9) f) (A 9) = f := va_up_self _ _ _
      have pn : ∀ p, p ∈ P → p < G.n := fun p hp9 => by
        obtain ⟨j9, h9, e9⟩ := List.getElem_of_mem hp9
        have := (hR.2.2.2 j9 h9).2
        rw [getD_el h9, e9] at this; exact this
      have hv := Gr.jn_ver hG.ok pn
      have gn := hG.ok.hn
      have gm := hG.ok.hm
      have hz9 : ∀ s, G.m ≤ s → G.jn P s = 0 := fun s hs => by
        have := hv.1 s
        rw [Gr.cn, Gr.cnt_m hG.ok (Nat.le_refl _) hs] at this; omega
      have jb : ∀ s, G.jn P s ≤ 100000 := fun s => by
        have a := hv.1 s
        have b := Gr.cnt_le (G := G) G.n s
        rw [Gr.cn] at a; omega
      refine ⟨rfl, A 1, A 2, A 3, capF G.n, A 8, A 9, X, G, W, G.jn P, ⟨hG1.shp, ⟨(hG1 8).2.2.1, (hG1 8).2.2.2, fun s hs => ⟨by rw [e9]; exact hf s hs, jb s⟩⟩⟩, Nat.le_refl _, Nat.le_refl _, fun S2 hS2 => ?_⟩
      obtain ⟨hG2, hK2⟩ := hG1.show hS2 hv hz9
      have c0 := c1_le G (G.jn P) G.n
      have e609 : (mI S2 609 (A 0)).toInt64 = lN (c1 G (G.jn P) G.n) := by rw [hG2 13, nI_l (by omega)]
      obtain ⟨k1, k2⟩ := lgc (a := xn) (b := c1 G (G.jn P) G.n) (by omega) (by omega)
      have rmq : (((List.range G.n).map X.ad).length + 1 ≤ 8192 ∧ (eR S2 (A 4) a ≠ none ∨ G.m < 16)) ↔ (G.n + 1 ≤ 8192 ∧ (hasAg G a ∨ G.m < 16)) := by
        rw [List.length_map, List.length_range, hG2.agr ha]
      have r6 : (c1 G (G.jn P) G.n < xn ∨ (xn = c1 G (G.jn P) G.n ∧ ¬ ins)) → mret (some .int) (sp_gfo (A 0) a nu r P.length (tf ins) (lN xn) F i A X G T H W P ins xn) [.inr (.inr (some (A 0))), .inl (nI a), .inl (nI nu), .inr (.inr (some r)), .inl (nI P.length), .inl (tf ins), .inr (.inl (lN xn))] S (some (.inl (6 : Int32))) S2 0 0 := fun hxx => by
        have e6 : fltV G a nu xn P ins = 6 := by rw [fltV, ift_f hrel, ift_f hag, ift_t hxx]
        exact ⟨trivial, ⟨by rw [e6]; rfl, G.jn P, hG2, kW.tr hK2, fun _ => rfl⟩, Nat.le_refl _, Nat.le_refl _⟩
      rw [e609]
      refine ⟨(hG2 0).1, fun q => ⟨rfl, r6 (Or.inl (k1.1 q))⟩, fun q => ⟨(hG2 0).1, fun w => ?_, fun w => ⟨fun v => ?_, fun v => ⟨rfl, r6 (Or.inr ⟨k2.1 w, fun u => by rw [tf_t u] at v; exact absurd v (by decide)⟩)⟩⟩⟩⟩
      · have hxx : ¬ (c1 G (G.jn P) G.n < xn ∨ (xn = c1 G (G.jn P) G.n ∧ ¬ ins)) := fun z => z.elim (fun u => q (k1.2 u)) (fun u => w (k2.2 u.1))
        refine ⟨rfl, a, rfl, 1, rfl, A 4, A 2, A 3, capF G.n, G.m, (fun b => (agE G b).map X.ad), (List.range G.n).map X.ad, ⟨hG2.agt, ha, (hG2 2).1, (hG2 2).2.2.2, hG2 4, by omega, by omega⟩, Nat.le_refl _, Nat.le_refl _, fun y => ?_, fun y => ?_⟩
        · have e7 : fltV G a nu xn P ins = 7 := by
            rw [fltV, ift_f hrel, ift_f hag, ift_f hxx, ift_f (fun w => ?_)]
            rw [tf_t (rmq.2 w)] at y; exact absurd y (by decide)
          exact ⟨rfl, trivial, ⟨by rw [e7]; rfl, G.jn P, hG2, kW.tr hK2, fun _ => rfl⟩, Nat.le_refl _, Nat.le_refl _⟩
        · have w9 := rmq.1 (Classical.byContradiction (fun w => y (tf_f w)))
          have e0 : fltV G a nu xn P ins = 0 := by rw [fltV, ift_f hrel, ift_f hag, ift_f hxx, ift_t w9]
          exact ⟨rfl, trivial, ⟨by rw [e0]; rfl, G.jn P, hG2, kW.tr hK2, fun _ => rfl⟩, Nat.le_refl _, Nat.le_refl _⟩
      · have hxx : ¬ (c1 G (G.jn P) G.n < xn ∨ (xn = c1 G (G.jn P) G.n ∧ ¬ ins)) := fun z => z.elim (fun u => q (k1.2 u)) (fun u => v (tf_f u.2))
        refine ⟨rfl, a, rfl, 1, rfl, A 4, A 2, A 3, capF G.n, G.m, (fun b => (agE G b).map X.ad), (List.range G.n).map X.ad, ⟨hG2.agt, ha, (hG2 2).1, (hG2 2).2.2.2, hG2 4, by omega, by omega⟩, Nat.le_refl _, Nat.le_refl _, fun y => ?_, fun y => ?_⟩
        · have e7 : fltV G a nu xn P ins = 7 := by
            rw [fltV, ift_f hrel, ift_f hag, ift_f hxx, ift_f (fun w => ?_)]
            rw [tf_t (rmq.2 w)] at y; exact absurd y (by decide)
          exact ⟨rfl, trivial, ⟨by rw [e7]; rfl, G.jn P, hG2, kW.tr hK2, fun _ => rfl⟩, Nat.le_refl _, Nat.le_refl _⟩
        · have w9 := rmq.1 (Classical.byContradiction (fun w => y (tf_f w)))
          have e0 : fltV G a nu xn P ins = 0 := by rw [fltV, ift_f hrel, ift_f hag, ift_f hxx, ift_t w9]
          exact ⟨rfl, trivial, ⟨by rw [e0]; rfl, G.jn P, hG2, kW.tr hK2, fun _ => rfl⟩, Nat.le_refl _, Nat.le_refl _⟩
theorem u_gfo (l : Launch) : Us l yX5_faultOf cX5_faultOf 9 (some .int) 5 109 6 T_gfo := by
  intro Rc Rs av S cs sl K Kx h
  unfold T_gfo at h
  split at h
  · rename_i g_o a_v nu_v r_o n_v bb x
    obtain ⟨g, rfl, h_1⟩ := pa_of h
    obtain ⟨r, rfl, h_2⟩ := pa_of h_1
    obtain ⟨a, rfl, h_3⟩ := h_2
    obtain ⟨nu, rfl, h_4⟩ := h_3
    obtain ⟨n, rfl, h_5⟩ := h_4
    obtain ⟨F, i, A, X, G, T, H, W, P, ins, xn, hp, hc, hs, hk⟩ := h_5
    refine ⟨(sp_gfo g a nu r n bb x F i A X G T H W P ins xn), c_gfo l g a nu r n bb x F i A X G T H W P ins xn, fun _ _ h9 => ⟨_, _, h9.1, (h9.2.1 ▸ (h9.2.2.1 0).1)⟩, ⟨rfl, hp⟩, hc, hs, fun v9 S' h8 => by
      obtain ⟨h7, h8⟩ := h8
      cases h7
      exact hk _ h8, fun _ _ q => q.elim⟩
  · exact h.elim
