/-! ===== PatchWriter.closeSpan ===== -/
section WPQ
variable {S S1 S2 : MM} {F F1 : Nat → Nat × Nat} {j w pk pl me : Nat} {a d1 : Nat → Nat} {V1 V2 : Nat → List Int32} {cap : Nat → Nat} {M1 M2 : List Nat}
theorem wpQ.of {k d' : Nat} {ws : List Int32} (p1 : PW S1 F1 j w pk pl me a d1 V1 cap M1) (p2 : ∀ b, b ∈ mL S → F1 b = F b) (p3 : Keep (fun b => (F b).1 = j) S S1) (p4 : ∀ q, q ≠ 1008 → mI S1 q w = mI S q w) (p5 : ∀ q, mR S1 q w = mR S q w) (hk : k < 6) (ha : App S1 S2 (a k) (d1 k) d' (bPuts [] (V1 k)) ws) : wpQ S S2 F j w pk pl me a (updI V1 k (V1 k ++ ws)) cap M1 := by
  obtain ⟨F2, d2, r1, r2, r3, r4⟩ := p1.app hk ha
  have pw := r4 w p1.2.2.2.2.1.1.1 (by rw [p1.1]; exact (by decide : 1 < 40))
  exact ⟨F2, d2, r1, fun b hb => (r2 b (p3.1 b hb).1).trans (p2 b hb), p3.trN r3 (fun b hb z => by rw [← p2 b hb]; exact z), fun q hq => by rw [pw.1, p4 q hq], fun q => by rw [pw.2, p5]⟩
theorem wpQ.ofm {x : Nat} (p1 : PW S1 F1 j w pk pl me a d1 V1 cap M1) (p2 : ∀ b, b ∈ mL S → F1 b = F b) (p3 : Keep (fun b => (F b).1 = j) S S1) (p4 : ∀ q, q ≠ 1008 → mI S1 q w = mI S q w) (p5 : ∀ q, mR S1 q w = mR S q w) (hm : mtP S1 S2 w pl me M1 x) : wpQ S S2 F j w pk pl me a V1 cap (madd M1 x) := by
  obtain ⟨m1, m2⟩ := p1.met hm
  exact ⟨F1, d1, m1, p2, p3.trN m2 (fun b hb z => by rw [← p2 b hb]; exact z), fun q hq => by rw [hm.2.2.1 q hq, p4 q hq], fun q => by rw [hm.2.2.2 q, p5]⟩
theorem wpQ.ofw (p2 : ∀ b, b ∈ mL S → F1 b = F b) (p3 : Keep (fun b => (F b).1 = j) S S1) (p4 : ∀ q, q ≠ 1008 → mI S1 q w = mI S q w) (p5 : ∀ q, mR S1 q w = mR S q w) (h : wpQ S1 S2 F1 j w pk pl me a V2 cap M2) : wpQ S S2 F j w pk pl me a V2 cap M2 := by
  obtain ⟨F2, d2, r1, r2, r3, r4, r5⟩ := h
  exact ⟨F2, d2, r1, fun b hb => (r2 b (p3.1 b hb).1).trans (p2 b hb), p3.trN r3 (fun b hb z => by rw [← p2 b hb]; exact z), fun q hq => by rw [r4 q hq, p4 q hq], fun q => by rw [r5, p5]⟩
end WPQ
theorem updI_ge {V : Nat → List Int32} {k : Nat} {ws : List Int32} (i : Nat) : (V i).length ≤ (updI V k (V k ++ ws) i).length := by
  unfold updI
  by_cases q : i = k
  · rw [if_pos q, q, List.length_append]; exact Nat.le_add_right _ _
  · rw [if_neg q]; exact Nat.le_refl _
/-- the span that is open: its first event, its last, its size, its kind; the span before; the index that is expected -/
abbrev Cur : Type := Option (Nat × Nat × Nat × Nat)
def WS (S : MM) (w : Nat) (X : GX) (G : Gr) (cu : Cur) (sb : Option Nat) (ex : Int32) : Prop := (match cu with
    | none => mR S 1009 w = none
    | some (f, l, z, kd) => f < G.n ∧ l < G.n ∧ mR S 1009 w = some (X.ad f) ∧ mR S 1010 w = some (X.ad l) ∧ mI S 1011 w = nI z ∧ mI S 1012 w = nI kd ∧ z ≤ 8192 ∧ kd < 3) ∧ mR S 1013 w = sb.map X.ad ∧ (∀ q, sb = some q → q < G.n) ∧ mI S 1014 w = ex
def opI (st : Int32) (kd : Nat) : Int32 := 3 * (if st < 0 then -2 * st - 1 else 2 * st) + nI kd
def csA (G : Gr) (V : Nat → List Int32) (M : List Nat) (f z : Nat) : Nat → List Int32 := updI V 1 (V 1 ++ (vbs 4 (nI (M.idxOf (agI G f))) ++ (vbs 4 (nI (G.ev f).nu) ++ vbs 4 (nI z))))
def csP (G : Gr) (V : Nat → List Int32) (M : List Nat) (f z : Nat) (sb : Option Nat) : Nat → List Int32 := updI (csA G V M f z) 2 (csA G V M f z 2 ++ wprV G (madd M (agI G f)) f sb)
def csV (G : Gr) (V : Nat → List Int32) (M : List Nat) (cu : Cur) (sb : Option Nat) (ex : Int32) : Nat → List Int32 := match cu with
  | none => V
  | some (f, _, z, kd) => updI (csP G V M f z sb) 3 (csP G V M f z sb 3 ++ vbs 4 (opI (nI (G.ev f).ix - ex) kd))
def csM (G : Gr) (M : List Nat) (cu : Cur) (sb : Option Nat) : List Nat := match cu with
  | none => M
  | some (f, _, _, _) => wprM G (madd M (agI G f)) f sb
def csB (cu : Cur) (sb : Option Nat) : Option Nat := match cu with
  | none => sb
  | some (_, l, _, _) => some l
def kdI (kd : Nat) : Int32 := if kd = 0 then 1 else if kd = 1 then 0 else -1
def csE (G : Gr) (cu : Cur) (ex : Int32) : Int32 := match cu with
  | none => ex
  | some (_, l, _, kd) => nI (G.ev l).ix + kdI kd
def csQ (S S' : MM) (F : Nat → Nat × Nat) (j w pk pl me : Nat) (a : Nat → Nat) (V : Nat → List Int32) (cap : Nat → Nat) (M : List Nat) (X : GX) (G : Gr) (cu : Cur) (sb : Option Nat) (ex : Int32) : Prop := ∃ F' d', PW S' F' j w pk pl me a d' (csV G V M cu sb ex) cap (csM G M cu sb) ∧ (∀ b, b ∈ mL S → F' b = F b) ∧ Keep (fun b => (F b).1 = j) S S' ∧ WS S' w X G none (csB cu sb) (csE G cu ex)
def I_cs1 (w : Nat) (F : Nat → Nat × Nat) (j pk pl me : Nat) (a : Nat → Nat) (V : Nat → List Int32) (cap : Nat → Nat) (M : List Nat) (X : GX) (G : Gr) (cu : Cur) (sb : Option Nat) (ex : Int32) (S : MM) (t : Nat) : KT := fun lo st S1 cs sl => ∃ f l z kd, cu = some (f, l, z, kd) ∧ t = 2 ∧ lo = [(0, .inr (.inr (some w)))] ∧ st = [.inl (opI (nI (G.ev f).ix - ex) kd), .inr (.inr (some (a 3)))] ∧ wpQ S S1 F j w pk pl me a (csP G V M f z sb) cap (csM G M cu sb) ∧ cs + wcC V cap = wcC (csP G V M f z sb) cap ∧ sl + wcZ V cap = wcZ (csP G V M f z sb) cap
def I_cs2 (w : Nat) (F : Nat → Nat × Nat) (j pk pl me : Nat) (a : Nat → Nat) (V : Nat → List Int32) (cap : Nat → Nat) (M : List Nat) (X : GX) (G : Gr) (cu : Cur) (sb : Option Nat) (ex : Int32) (S : MM) (t : Nat) : KT := fun lo st S1 cs sl => ∃ f l z kd, cu = some (f, l, z, kd) ∧ t = 1 ∧ lo = [(0, .inr (.inr (some w)))] ∧ st = [.inl (kdI kd), .inl (nI (G.ev l).ix), .inr (.inr (some w))] ∧ wpQ S S1 F j w pk pl me a (csV G V M cu sb ex) cap (csM G M cu sb) ∧ cs + wcC V cap = wcC (csV G V M cu sb ex) cap ∧ sl + wcZ V cap = wcZ (csV G V M cu sb ex) cap
def T_wcs : TR := fun Rc Rs av S cs sl K _Kx => match av with
  | [.inr (.inr w_o)] => pa w_o fun w => (∃ (F : Nat → Nat × Nat) (j pk pl me : Nat) (a d : Nat → Nat) (V : Nat → List Int32) (cap : Nat → Nat) (M : List Nat) (i : Nat) (A : Nat → Nat) (X : GX) (G : Gr) (T : Tr) (H : List Nat) (W : Nat → Nat) (cu : Cur) (sb : Option Nat) (ex : Int32), (PWG S F j w pk pl me a d V cap M i A X G T H W ∧ WS S w X G cu sb ex) ∧ cs + (wcC (csV G V M cu sb ex) cap - wcC V cap) ≤ Rc ∧ sl + (wcZ (csV G V M cu sb ex) cap - wcZ V cap) ≤ Rs ∧ (∀ (S' : MM), (csQ S S' F j w pk pl me a V cap M X G cu sb ex) → K none S' (cs + (wcC (csV G V M cu sb ex) cap - wcC V cap)) (sl + (wcZ (csV G V M cu sb ex) cap - wcZ V cap))))
  | _ => False
def sp_wcs (w : Nat) (F : Nat → Nat × Nat) (j pk pl me : Nat) (a d : Nat → Nat) (V : Nat → List Int32) (cap : Nat → Nat) (M : List Nat) (i : Nat) (A : Nat → Nat) (X : GX) (G : Gr) (T : Tr) (H : List Nat) (W : Nat → Nat) (cu : Cur) (sb : Option Nat) (ex : Int32) : Sp := (fun av S => av = [.inr (.inr (some w))] ∧ (PWG S F j w pk pl me a d V cap M i A X G T H W ∧ WS S w X G cu sb ex), fun _ S => wcC (csV G V M cu sb ex) cap - wcC V cap, fun _ S => wcZ (csV G V M cu sb ex) cap - wcZ V cap, fun _ S rv S' => rv = none ∧ (csQ S S' F j w pk pl me a V cap M X G cu sb ex), fun _ _ _ _ => False)
def tX9_closeSpan : CD := [(0, .aload_n 0), (1, .getfield 41), (4, .ifnonnull 4), (7, .return_), (8, .aload_n 0), (9, .getfield 18), (12, .aload_n 0), (13, .aload_n 0), (14, .getfield 41), (17, .getfield 152), (20, .getfield 156), (23, .invokevirtual 161), (26, .invokevirtual 101), (29, .aload_n 0), (30, .getfield 18), (33, .aload_n 0), (34, .getfield 41), (37, .getfield 165), (40, .invokevirtual 101), (43, .aload_n 0), (44, .getfield 18), (47, .aload_n 0), (48, .getfield 48), (51, .invokevirtual 101), (54, .aload_n 0), (55, .invokevirtual 168), (58, .aload_n 0), (59, .getfield 41), (62, .getfield 140), (65, .aload_n 0), (66, .getfield 57), (69, .isub), (70, .istore_n 1), (71, .aload_n 0), (72, .getfield 24), (75, .iconst 3), (76, .iload_n 1), (77, .ifCond .lt 9), (80, .iconst 2), (81, .iload_n 1), (82, .imul), (83, .goto 9), (86, .bipush (-2)), (88, .iload_n 1), (89, .imul), (90, .iconst 1), (91, .isub), (92, .imul), (93, .aload_n 0), (94, .getfield 51), (97, .iadd), (98, .invokevirtual 101), (101, .aload_n 0), (102, .aload_n 0), (103, .getfield 45), (106, .getfield 140), (109, .aload_n 0), (110, .getfield 51), (113, .ifCond .ne 7), (116, .iconst 1), (117, .goto 16), (120, .aload_n 0), (121, .getfield 51), (124, .iconst 1), (125, .if_icmp .ne 7), (128, .iconst 0), (129, .goto 4), (132, .iconst (-1)), (133, .iadd), (134, .putfield 57), (137, .aload_n 0), (138, .aload_n 0), (139, .getfield 45), (142, .putfield 54), (145, .aload_n 0), (146, .aconst_null), (147, .putfield 41), (150, .return_)]
set_option maxRecDepth 100000 in
theorem kX9_closeSpan : chk cX9_closeSpan tX9_closeSpan = true := by decide +kernel
theorem vX9_closeSpan_161 : ∀ w ∈ ([.methodLink RX9 161 yX9_placeOf, .instanceMethod yX9_placeOf, .selects yX9_placeOf.cls yX9_placeOf yX9_placeOf, .initialized yX9_placeOf.cls, .code yX9_placeOf cX9_placeOf 2 (some .int)] : List Cond), w ∈ lw_good := List.forall_mem_cons.mpr ⟨mgd 1392 (by decide +kernel) (by decide +kernel), List.forall_mem_cons.mpr ⟨mgd 1394 (by decide +kernel) (by decide +kernel), List.forall_mem_cons.mpr ⟨mgd 29 (by decide +kernel) (by decide +kernel), List.forall_mem_cons.mpr ⟨mgd 133 (by decide +kernel) (by decide +kernel), List.forall_mem_cons.mpr ⟨mgd 1395 (by decide +kernel) (by decide +kernel), fun _ h => absurd h List.not_mem_nil⟩⟩⟩⟩⟩
theorem vX9_closeSpan_101 : ∀ w ∈ ([.methodLink RX9 101 yX1_addVarint, .instanceMethod yX1_addVarint, .selects yX1_addVarint.cls yX1_addVarint yX1_addVarint, .initialized yX1_addVarint.cls, .code yX1_addVarint cX1_addVarint 4 none] : List Cond), w ∈ lw_good := List.forall_mem_cons.mpr ⟨mgd 1396 (by decide +kernel) (by decide +kernel), List.forall_mem_cons.mpr ⟨mgd 1341 (by decide +kernel) (by decide +kernel), List.forall_mem_cons.mpr ⟨mgd 1342 (by decide +kernel) (by decide +kernel), List.forall_mem_cons.mpr ⟨mgd 122 (by decide +kernel) (by decide +kernel), List.forall_mem_cons.mpr ⟨mgd 1343 (by decide +kernel) (by decide +kernel), fun _ h => absurd h List.not_mem_nil⟩⟩⟩⟩⟩
theorem vX9_closeSpan_168 : ∀ w ∈ ([.methodLink RX9 168 yX9_writeParents, .instanceMethod yX9_writeParents, .selects yX9_writeParents.cls yX9_writeParents yX9_writeParents, .initialized yX9_writeParents.cls, .code yX9_writeParents cX9_writeParents 3 none] : List Cond), w ∈ lw_good := List.forall_mem_cons.mpr ⟨mgd 1397 (by decide +kernel) (by decide +kernel), List.forall_mem_cons.mpr ⟨mgd 1399 (by decide +kernel) (by decide +kernel), List.forall_mem_cons.mpr ⟨mgd 30 (by decide +kernel) (by decide +kernel), List.forall_mem_cons.mpr ⟨mgd 133 (by decide +kernel) (by decide +kernel), List.forall_mem_cons.mpr ⟨mgd 1400 (by decide +kernel) (by decide +kernel), fun _ h => absurd h List.not_mem_nil⟩⟩⟩⟩⟩
set_option maxRecDepth 100000 in
set_option maxHeartbeats 2000000 in
theorem c_wcs (l : Launch) : ∀ (w : Nat) (F : Nat → Nat × Nat) (j pk pl me : Nat) (a d : Nat → Nat) (V : Nat → List Int32) (cap : Nat → Nat) (M : List Nat) (i : Nat) (A : Nat → Nat) (X : GX) (G : Gr) (T : Tr) (H : List Nat) (W : Nat → Nat) (cu : Cur) (sb : Option Nat) (ex : Int32), Ct l yX9_closeSpan cX9_closeSpan 2 none 5 120 (sp_wcs w F j pk pl me a d V cap M i A X G T H W cu sb ex) := by
  intro w F j pk pl me a d V cap M i A X G T H W cu sb ex
  refine Ct.of (fX9, nX9, aX9, iX9, lX9, [(161, 0, 2, 1, T_wpl), (101, 0, 2, 0, T_bvar), (168, 0, 1, 0, T_wwp)], qX9, gX9, []) false tX9_closeSpan (fun _ S => look [(98, ([0], I_cs1 w F j pk pl me a V cap M X G cu sb ex S)), (133, ([0], I_cs2 w F j pk pl me a V cap M X G cu sb ex S))]) (by decide) (by decide) kX9_closeSpan ⟨_, _, rfl⟩ fX9_ok nX9_ok aX9_ok iX9_ok lX9_ok (fun p e R s m args below meth c Q D cy z r A C hR1 hR2 => List.forall_mem_cons.mpr ⟨cOK_use (fun _ _ _ _ _ _ _ _ h => let ⟨sp, h1, h2, h3⟩ := u_wpl l _ _ _ _ _ _ _ _ h; ⟨sp, cOK_V C h1 vX9_closeSpan_161 ⟨by decide, by decide, by decide +kernel⟩ ⟨by rw [hR1]; decide, by rw [hR2]; decide⟩ (k := 10) (T := TX9) (N := 15) rfl (by decide) h2, h3⟩), List.forall_mem_cons.mpr ⟨cOK_use (fun _ _ _ _ _ _ _ _ h => let ⟨sp, h1, h2, h3⟩ := u_bvar l _ _ _ _ _ _ _ _ h; ⟨sp, cOK_V C h1 vX9_closeSpan_101 ⟨by decide, by decide, by decide +kernel⟩ ⟨by rw [hR1]; decide, by rw [hR2]; decide⟩ (k := 2) (T := TX1) (N := 3) rfl (by decide) h2, h3⟩), List.forall_mem_cons.mpr ⟨cOK_use (fun _ _ _ _ _ _ _ _ h => let ⟨sp, h1, h2, h3⟩ := u_wwp l _ _ _ _ _ _ _ _ h; ⟨sp, cOK_V C h1 vX9_closeSpan_168 ⟨by decide, by decide, by decide +kernel⟩ ⟨by rw [hR1]; decide, by rw [hR2]; decide⟩ (k := 10) (T := TX9) (N := 15) rfl (by decide) h2, h3⟩), fun _ h => absurd h List.not_mem_nil⟩⟩⟩) qX9_ok gX9_ok rfl ?_ ?_
  · rintro _ S ⟨rfl, hp⟩
    refine ⟨Nat.le_of_ble_eq_true rfl, 300, ?_⟩
    show (isO S 10 w ∧ ((∀ w_1, (mR S 1009 w) = some w_1 → (isO S 10 w ∧ (isO S 10 w ∧ (pa (mR S 1009 w) fun a_2 => isO S 5 a_2 ∧ (pa (mR S 500 a_2) fun a_3 => isO S 1 a_3 ∧ (0 = 0 ∧ (∃ (x_4 : Nat), mI S 100 a_3 = nI x_4 ∧ (∃ (pl_5 me_6 : Nat) (M_7 : List Nat), (MetR S w pl_5 me_6 M_7 ∧ x_4 < 256) ∧ 0 ≤ wcC (csV G V M cu sb ex) cap - wcC V cap ∧ 0 ≤ wcZ (csV G V M cu sb ex) cap - wcZ V cap ∧ (∀ (S_8 : MM), (mtP S S_8 w pl_5 me_6 M_7 x_4) → (0 = 0 ∧ ((pa (mR S 1001 w) fun a_9 => (∃ (d_10 : Nat) (B_11 : List Nat), (By S_8 a_9 d_10 B_11) ∧ 0 + (addNC (vbs 4 (nI (M_7.idxOf x_4))).length (mN S_8 d_10) B_11.length) ≤ wcC (csV G V M cu sb ex) cap - wcC V cap ∧ 0 + (addNS (vbs 4 (nI (M_7.idxOf x_4))).length (mN S_8 d_10) B_11.length) ≤ wcZ (csV G V M cu sb ex) cap - wcZ V cap ∧ (∀ (S_12 : MM), (∃ d', App S_8 S_12 a_9 d_10 d' B_11 (vbs 4 (nI (M_7.idxOf x_4)))) → (isO S_12 10 w ∧ (isO S_12 10 w ∧ (pa (mR S_12 1009 w) fun a_13 => isO S_12 5 a_13 ∧ (0 = 0 ∧ ((pa (mR S_12 1001 w) fun a_14 => (∃ (d_15 : Nat) (B_16 : List Nat), (By S_12 a_14 d_15 B_16) ∧ 0 + (addNC (vbs 4 (nI (M_7.idxOf x_4))).length (mN S_8 d_10) B_11.length) + (addNC (vbs 4 (mI S_12 501 a_13)).length (mN S_12 d_15) B_16.length) ≤ wcC (csV G V M cu sb ex) cap - wcC V cap ∧ 0 + (addNS (vbs 4 (nI (M_7.idxOf x_4))).length (mN S_8 d_10) B_11.length) + (addNS (vbs 4 (mI S_12 501 a_13)).length (mN S_12 d_15) B_16.length) ≤ wcZ (csV G V M cu sb ex) cap - wcZ V cap ∧ (∀ (S_17 : MM), (∃ d', App S_12 S_17 a_14 d_15 d' B_16 (vbs 4 (mI S_12 501 a_13))) → (isO S_17 10 w ∧ (isO S_17 10 w ∧ (0 = 0 ∧ ((pa (mR S_17 1001 w) fun a_18 => (∃ (d_19 : Nat) (B_20 : List Nat), (By S_17 a_18 d_19 B_20) ∧ 0 + (addNC (vbs 4 (nI (M_7.idxOf x_4))).length (mN S_8 d_10) B_11.length) + (addNC (vbs 4 (mI S_12 501 a_13)).length (mN S_12 d_15) B_16.length) + (addNC (vbs 4 (mI S_17 1011 w)).length (mN S_17 d_19) B_20.length) ≤ wcC (csV G V M cu sb ex) cap - wcC V cap ∧ 0 + (addNS (vbs 4 (nI (M_7.idxOf x_4))).length (mN S_8 d_10) B_11.length) + (addNS (vbs 4 (mI S_12 501 a_13)).length (mN S_12 d_15) B_16.length) + (addNS (vbs 4 (mI S_17 1011 w)).length (mN S_17 d_19) B_20.length) ≤ wcZ (csV G V M cu sb ex) cap - wcZ V cap ∧ (∀ (S_21 : MM), (∃ d', App S_17 S_21 a_18 d_19 d' B_20 (vbs 4 (mI S_17 1011 w))) → (0 = 0 ∧ (∃ (F_22 : Nat → Nat × Nat) (j_23 pk_24 pl_25 me_26 : Nat) (a_27 d_28 : Nat → Nat) (V_29 : Nat → List Int32) (cap_30 : Nat → Nat) (M_31 : List Nat) (i_32 : Nat) (A_33 : Nat → Nat) (X_34 : GX) (G_35 : Gr) (T_36 : Tr) (H_37 : List Nat) (W_38 : Nat → Nat) (f_39 : Nat) (sb_40 : Option Nat), (wpR S_21 F_22 j_23 w pk_24 pl_25 me_26 a_27 d_28 V_29 cap_30 M_31 i_32 A_33 X_34 G_35 T_36 H_37 W_38 f_39 sb_40) ∧ 0 + (addNC (vbs 4 (nI (M_7.idxOf x_4))).length (mN S_8 d_10) B_11.length) + (addNC (vbs 4 (mI S_12 501 a_13)).length (mN S_12 d_15) B_16.length) + (addNC (vbs 4 (mI S_17 1011 w)).length (mN S_17 d_19) B_20.length) + (wcC (updI V_29 2 (V_29 2 ++ wprV G_35 M_31 f_39 sb_40)) cap_30 - wcC V_29 cap_30) ≤ wcC (csV G V M cu sb ex) cap - wcC V cap ∧ 0 + (addNS (vbs 4 (nI (M_7.idxOf x_4))).length (mN S_8 d_10) B_11.length) + (addNS (vbs 4 (mI S_12 501 a_13)).length (mN S_12 d_15) B_16.length) + (addNS (vbs 4 (mI S_17 1011 w)).length (mN S_17 d_19) B_20.length) + (wcZ (updI V_29 2 (V_29 2 ++ wprV G_35 M_31 f_39 sb_40)) cap_30 - wcZ V_29 cap_30) ≤ wcZ (csV G V M cu sb ex) cap - wcZ V cap ∧ (∀ (S_41 : MM), (wpQ S_21 S_41 F_22 j_23 w pk_24 pl_25 me_26 a_27 (updI V_29 2 (V_29 2 ++ wprV G_35 M_31 f_39 sb_40)) cap_30 (wprM G_35 M_31 f_39 sb_40)) → (isO S_41 10 w ∧ (pa (mR S_41 1009 w) fun a_42 => isO S_41 5 a_42 ∧ (isO S_41 10 w ∧ (isO S_41 10 w ∧ ((((mI S_41 506 a_42) - (mI S_41 1014 w)) < 0 → (isO S_41 10 w ∧ (∃ k1, I_cs1 w F j pk pl me a V cap M X G cu sb ex S k1 [(0, .inr (.inr (some w)))] [.inl (((3 : Int32) * (((-2 : Int32) * ((mI S_41 506 a_42) - (mI S_41 1014 w))) - (1 : Int32))) + (mI S_41 1012 w)), .inr (.inr (mR S_41 1003 w))] S_41 (0 + (addNC (vbs 4 (nI (M_7.idxOf x_4))).length (mN S_8 d_10) B_11.length) + (addNC (vbs 4 (mI S_12 501 a_13)).length (mN S_12 d_15) B_16.length) + (addNC (vbs 4 (mI S_17 1011 w)).length (mN S_17 d_19) B_20.length) + (wcC (updI V_29 2 (V_29 2 ++ wprV G_35 M_31 f_39 sb_40)) cap_30 - wcC V_29 cap_30)) (0 + (addNS (vbs 4 (nI (M_7.idxOf x_4))).length (mN S_8 d_10) B_11.length) + (addNS (vbs 4 (mI S_12 501 a_13)).length (mN S_12 d_15) B_16.length) + (addNS (vbs 4 (mI S_17 1011 w)).length (mN S_17 d_19) B_20.length) + (wcZ (updI V_29 2 (V_29 2 ++ wprV G_35 M_31 f_39 sb_40)) cap_30 - wcZ V_29 cap_30))))) ∧ (¬ ((mI S_41 506 a_42) - (mI S_41 1014 w)) < 0 → (isO S_41 10 w ∧ (∃ k1, I_cs1 w F j pk pl me a V cap M X G cu sb ex S k1 [(0, .inr (.inr (some w)))] [.inl (((3 : Int32) * ((2 : Int32) * ((mI S_41 506 a_42) - (mI S_41 1014 w)))) + (mI S_41 1012 w)), .inr (.inr (mR S_41 1003 w))] S_41 (0 + (addNC (vbs 4 (nI (M_7.idxOf x_4))).length (mN S_8 d_10) B_11.length) + (addNC (vbs 4 (mI S_12 501 a_13)).length (mN S_12 d_15) B_16.length) + (addNC (vbs 4 (mI S_17 1011 w)).length (mN S_17 d_19) B_20.length) + (wcC (updI V_29 2 (V_29 2 ++ wprV G_35 M_31 f_39 sb_40)) cap_30 - wcC V_29 cap_30)) (0 + (addNS (vbs 4 (nI (M_7.idxOf x_4))).length (mN S_8 d_10) B_11.length) + (addNS (vbs 4 (mI S_12 501 a_13)).length (mN S_12 d_15) B_16.length) + (addNS (vbs 4 (mI S_17 1011 w)).length (mN S_17 d_19) B_20.length) + (wcZ (updI V_29 2 (V_29 2 ++ wprV G_35 M_31 f_39 sb_40)) cap_30 - wcZ V_29 cap_30)))))))))))))))))))))))))))))))))))))))))) ∧ ((mR S 1009 w) = none → (([] : List MV) = [] ∧ mret none (sp_wcs w F j pk pl me a d V cap M i A X G T H W cu sb ex) [.inr (.inr (some w))] S none S 0 0))))
    obtain ⟨hPG, hS⟩ := hp
    have hPW := hPG.1
    have hG := hPG.2.1
    obtain ⟨f1, f2, f3, f4, hM, h1, h2, h3, h4, hW, hF, hj⟩ := id hPW
    refine ⟨hM.1, fun w1 hw1 => ?_, fun hn => ?_⟩
    rotate_left
    · have hcu : cu = none := by
        cases cu with
        | none => rfl
        | some q =>
          obtain ⟨f, l, z, kd⟩ := q
          have := hS.1.2.2.1
          rw [hn] at this; cases this
      subst hcu
      exact ⟨rfl, trivial, ⟨rfl, F, d, hPW, fun _ _ => rfl, Keep.rf, hS⟩, Nat.zero_le _, Nat.zero_le _⟩
    · cases cu with
      | none => rw [show mR S 1009 w = none from hS.1] at hw1; cases hw1
      | some q =>
        obtain ⟨f, l, z, kd⟩ := q
        obtain ⟨⟨hf, hl, e9, e10, e11, e12, hz, hkd⟩, e13, hsb, e14⟩ := hS
        obtain ⟨v1, v2, v3, -⟩ := hG.ev.2.1 f hf
        have ag := hG.ev.2.2.1 _ (hG.ok.sl1 _ hf)
        have agb := hG.ok.ag1 _ (hG.ok.sl1 _ hf)
        have lP := wcC_mono (V := csP G V M f z sb) (V' := csV G V M (some (f, l, z, kd)) sb ex) (cap := cap) (fun k => updI_ge k)
        have lA := wcC_mono (V := csA G V M f z) (V' := csP G V M f z sb) (cap := cap) (fun k => updI_ge k)
        have eA : updI V 1 (((V 1 ++ vbs 4 (nI (M.idxOf (agI G f)))) ++ vbs 4 (nI (G.ev f).nu)) ++ vbs 4 (nI z)) = csA G V M f z := by
          unfold csA
          simp only [List.append_assoc]
        have l2 : wcC (updI V 1 ((V 1 ++ vbs 4 (nI (M.idxOf (agI G f)))) ++ vbs 4 (nI (G.ev f).nu))) cap ≤ wcC (csA G V M f z) cap ∧ wcZ (updI V 1 ((V 1 ++ vbs 4 (nI (M.idxOf (agI G f)))) ++ vbs 4 (nI (G.ev f).nu))) cap ≤ wcZ (csA G V M f z) cap := by
          rw [← eA]
          refine wcC_mono (updI_len ?_)
          rw [List.length_append (bs := vbs 4 (nI z))]
          exact Nat.le_add_right _ _
        have l1 : wcC (updI V 1 (V 1 ++ vbs 4 (nI (M.idxOf (agI G f))))) cap ≤ wcC (updI V 1 ((V 1 ++ vbs 4 (nI (M.idxOf (agI G f)))) ++ vbs 4 (nI (G.ev f).nu))) cap ∧ wcZ (updI V 1 (V 1 ++ vbs 4 (nI (M.idxOf (agI G f))))) cap ≤ wcZ (updI V 1 ((V 1 ++ vbs 4 (nI (M.idxOf (agI G f)))) ++ vbs 4 (nI (G.ev f).nu))) cap := by
          refine wcC_mono (updI_len ?_)
          rw [List.length_append (bs := vbs 4 (nI (G.ev f).nu))]
          exact Nat.le_add_right _ _
        refine ⟨hM.1, hM.1, pa_i e9 ⟨v1, pa_i v2 ⟨ag.1, rfl, agI G f, ag.2.1, pl, me, M, ⟨hM, agb⟩, Nat.zero_le _, Nat.zero_le _, fun S8 hS8 => ?_⟩⟩⟩
        obtain ⟨F8, d8, a1, a2, a3, a4, a5⟩ := wpQ.ofm hPW (fun _ _ => rfl) Keep.rf (fun _ _ => rfl) (fun _ => rfl) hS8
        obtain ⟨c1, z1⟩ := WC.cost a1.2.2.2.2.2.2.2.2.2.1 (k := 1) (by decide) (vbs 4 (nI (M.idxOf (agI G f))))
        refine ⟨rfl, pa_i (h1 1 (by decide)) ⟨d8 1, _, (a1.2.2.2.2.2.2.2.2.2.1 1 (by decide)).1, by omega, by omega, fun S12 hS12 => ?_⟩⟩
        obtain ⟨d', ha⟩ := hS12
        obtain ⟨F12, d12, b1, b2, b3, b4, b5⟩ := wpQ.of a1 a2 a3 a4 a5 (k := 1) (by decide) ha
        obtain ⟨u1, u2, u3, -⟩ := (hPG.gi b3 b2).ev.2.1 f hf
        refine ⟨b1.2.2.2.2.1.1, b1.2.2.2.2.1.1, pa_i ((b5 1009).trans e9) ⟨u1, rfl, pa_i (b1.2.2.2.2.2.1 1 (by decide)) ?_⟩⟩
        rw [u3]
        obtain ⟨c2, z2⟩ := WC.cost b1.2.2.2.2.2.2.2.2.2.1 (k := 1) (by decide) (vbs 4 (nI (G.ev f).nu))
        have bx := (b1.2.2.2.2.2.2.2.2.2.1 1 (by decide)).1
        rw [updI_s] at c2 z2 bx
        rw [updI_updI] at c2 z2
        refine ⟨d12 1, _, bx, by omega, by omega, fun S17 hS17 => ?_⟩
        obtain ⟨d'', hb⟩ := hS17
        have q17 := wpQ.of b1 b2 b3 b4 b5 (k := 1) (by decide) (by rw [updI_s]; exact hb)
        rw [updI_s, updI_updI] at q17
        obtain ⟨F17, d17, x1, x2, x3, x4, x5⟩ := q17
        have i11 : mI S17 1011 w = nI z := (x4 1011 (by decide)).trans e11
        refine ⟨x1.2.2.2.2.1.1, x1.2.2.2.2.1.1, rfl, pa_i (x1.2.2.2.2.2.1 1 (by decide)) ?_⟩
        rw [i11]
        obtain ⟨c3, z3⟩ := WC.cost x1.2.2.2.2.2.2.2.2.2.1 (k := 1) (by decide) (vbs 4 (nI z))
        have bx3 := (x1.2.2.2.2.2.2.2.2.2.1 1 (by decide)).1
        rw [updI_s] at c3 z3 bx3
        rw [updI_updI, eA] at c3 z3
        refine ⟨d17 1, _, bx3, by omega, by omega, fun S21 hS21 => ?_⟩
        obtain ⟨d3, hc⟩ := hS21
        have q21 := wpQ.of x1 x2 x3 x4 x5 (k := 1) (by decide) (by rw [updI_s]; exact hc)
        rw [updI_s, updI_updI, eA] at q21
        obtain ⟨F21, d21, y1, y2, y3, y4, y5⟩ := q21
        have hu : updI (csA G V M f z) 2 (csA G V M f z 2 ++ wprV G (madd M (agI G f)) f sb) = csP G V M f z sb := rfl
        refine ⟨rfl, F21, j, pk, pl, me, a, d21, csA G V M f z, cap, madd M (agI G f), i, A, X, G, T, H, W, f, sb, ⟨⟨y1, hPG.gi y3 y2, hPG.2.2.1, hPG.2.2.2⟩, hf, (y5 1009).trans e9, (y5 1013).trans e13, hsb⟩, ?_, ?_, fun S41 hS41 => ?_⟩
        · rw [hu]; omega
        · rw [hu]; omega
        · rw [hu] at hS41 ⊢
          have q41 := wpQ.ofw y2 y3 y4 y5 hS41
          obtain ⟨F41, d41, g1, g2, g3, g4, g5⟩ := id q41
          have gv := (hPG.gi g3 g2).ev.2.1 f hf
          have i6 : mI S41 506 (X.ad f) = nI (G.ev f).ix := gv.2.2.2.2.2.2.2.2.2.2.2.2.2.1
          have i14 : mI S41 1014 w = ex := (g4 1014 (by decide)).trans e14
          have i12 : mI S41 1012 w = nI kd := (g4 1012 (by decide)).trans e12
          have r3 : mR S41 1003 w = some (a 3) := g1.2.2.2.2.2.1 3 (by decide)
          refine ⟨g1.2.2.2.2.1.1, pa_i ((g5 1009).trans e9) ⟨gv.1, g1.2.2.2.2.1.1, g1.2.2.2.2.1.1, ?_⟩⟩
          rw [i6, i14, i12, r3]
          refine ⟨fun st => ⟨g1.2.2.2.2.1.1, 2, f, l, z, kd, rfl, rfl, rfl, ?_, q41, by omega, by omega⟩, fun st => ⟨g1.2.2.2.2.1.1, 2, f, l, z, kd, rfl, rfl, rfl, ?_, q41, by omega, by omega⟩⟩
          · unfold opI; rw [if_pos st]
          · unfold opI; rw [if_neg st]
  · intro av S hpre pc I hI k lo st S1 cs sl h
    obtain ⟨rfl, hp⟩ := hpre
    have hm := look_in hI
    simp only [List.mem_cons, List.not_mem_nil, or_false] at hm
    rcases hm with hm | hm
    · cases hm
      obtain ⟨f, l, z, kd, hcu, rfl, rfl, rfl, hQ, hcs, hsl⟩ := h
      refine ⟨300, ?_⟩
      show (0 = 0 ∧ (∃ (d_1 : Nat) (B_2 : List Nat), (By S1 (a 3) d_1 B_2) ∧ cs + (addNC (vbs 4 (opI (nI (G.ev f).ix - ex) kd)).length (mN S1 d_1) B_2.length) ≤ wcC (csV G V M cu sb ex) cap - wcC V cap ∧ sl + (addNS (vbs 4 (opI (nI (G.ev f).ix - ex) kd)).length (mN S1 d_1) B_2.length) ≤ wcZ (csV G V M cu sb ex) cap - wcZ V cap ∧ (∀ (S_3 : MM), (∃ d', App S1 S_3 (a 3) d_1 d' B_2 (vbs 4 (opI (nI (G.ev f).ix - ex) kd))) → (isO S_3 10 w ∧ (pa (mR S_3 1010 w) fun a_4 => isO S_3 5 a_4 ∧ (isO S_3 10 w ∧ ((¬ (mI S_3 1012 w) = 0 → (isO S_3 10 w ∧ ((¬ (mI S_3 1012 w) = (1 : Int32) → (∃ k1, k1 < 2 ∧ I_cs2 w F j pk pl me a V cap M X G cu sb ex S k1 [(0, .inr (.inr (some w)))] [.inl (-1 : Int32), .inl (mI S_3 506 a_4), .inr (.inr (some w))] S_3 (cs + (addNC (vbs 4 (opI (nI (G.ev f).ix - ex) kd)).length (mN S1 d_1) B_2.length)) (sl + (addNS (vbs 4 (opI (nI (G.ev f).ix - ex) kd)).length (mN S1 d_1) B_2.length)))) ∧ ((mI S_3 1012 w) = (1 : Int32) → (∃ k1, k1 < 2 ∧ I_cs2 w F j pk pl me a V cap M X G cu sb ex S k1 [(0, .inr (.inr (some w)))] [.inl (0 : Int32), .inl (mI S_3 506 a_4), .inr (.inr (some w))] S_3 (cs + (addNC (vbs 4 (opI (nI (G.ev f).ix - ex) kd)).length (mN S1 d_1) B_2.length)) (sl + (addNS (vbs 4 (opI (nI (G.ev f).ix - ex) kd)).length (mN S1 d_1) B_2.length))))))) ∧ ((mI S_3 1012 w) = 0 → (∃ k1, k1 < 2 ∧ I_cs2 w F j pk pl me a V cap M X G cu sb ex S k1 [(0, .inr (.inr (some w)))] [.inl (1 : Int32), .inl (mI S_3 506 a_4), .inr (.inr (some w))] S_3 (cs + (addNC (vbs 4 (opI (nI (G.ev f).ix - ex) kd)).length (mN S1 d_1) B_2.length)) (sl + (addNS (vbs 4 (opI (nI (G.ev f).ix - ex) kd)).length (mN S1 d_1) B_2.length)))))))))))
      subst hcu
      obtain ⟨hPG, hS⟩ := hp
      obtain ⟨⟨hf, hl, e9, e10, e11, e12, hz, hkd⟩, e13, hsb, e14⟩ := hS
      obtain ⟨F1, d1, p1, p2, p3, p4, p5⟩ := hQ
      obtain ⟨c1, z1⟩ := WC.cost p1.2.2.2.2.2.2.2.2.2.1 (k := 3) (by decide) (vbs 4 (opI (nI (G.ev f).ix - ex) kd))
      have hu : updI (csP G V M f z sb) 3 (csP G V M f z sb 3 ++ vbs 4 (opI (nI (G.ev f).ix - ex) kd)) = csV G V M (some (f, l, z, kd)) sb ex := rfl
      rw [hu] at c1 z1
      refine ⟨rfl, d1 3, _, (p1.2.2.2.2.2.2.2.2.2.1 3 (by decide)).1, by omega, by omega, fun S3 hS3 => ?_⟩
      obtain ⟨d', ha⟩ := hS3
      have q3 := wpQ.of p1 p2 p3 p4 p5 (k := 3) (by decide) ha
      rw [hu] at q3
      obtain ⟨F3, d3, g1, g2, g3, g4, g5⟩ := id q3
      have gv := (hPG.gi g3 g2).ev.2.1 l hl
      have i6 : mI S3 506 (X.ad l) = nI (G.ev l).ix := gv.2.2.2.2.2.2.2.2.2.2.2.2.2.1
      have i12 : mI S3 1012 w = nI kd := (g4 1012 (by decide)).trans e12
      refine ⟨g1.2.2.2.2.1.1, pa_i ((g5 1010).trans e10) ⟨gv.1, g1.2.2.2.2.1.1, ?_⟩⟩
      rw [i6, i12]
      have fin : ∀ v : Int32, v = kdI kd → ∃ k1, k1 < 2 ∧ I_cs2 w F j pk pl me a V cap M X G (some (f, l, z, kd)) sb ex S k1 [(0, .inr (.inr (some w)))] [.inl v, .inl (nI (G.ev l).ix), .inr (.inr (some w))] S3 (cs + (addNC (vbs 4 (opI (nI (G.ev f).ix - ex) kd)).length (mN S1 (d1 3)) (bPuts [] (csP G V M f z sb 3)).length)) (sl + (addNS (vbs 4 (opI (nI (G.ev f).ix - ex) kd)).length (mN S1 (d1 3)) (bPuts [] (csP G V M f z sb 3)).length)) := fun v hv =>
        ⟨1, by decide, f, l, z, kd, rfl, rfl, rfl, by rw [hv], q3, by omega, by omega⟩
      refine if_ne (a := kd) (b := 0) (by omega) (by decide) (fun q0 => ⟨g1.2.2.2.2.1.1, if_ne (a := kd) (b := 1) (by omega) (by decide) (fun q1 => fin _ ?_) (fun q1 => fin _ ?_)⟩) (fun q0 => fin _ ?_)
      · unfold kdI; rw [if_neg q0, if_neg q1]
      · unfold kdI; rw [if_neg q0, if_pos q1]
      · unfold kdI; rw [if_pos q0]
    · cases hm
      obtain ⟨f, l, z, kd, hcu, rfl, rfl, rfl, hQ, hcs, hsl⟩ := h
      refine ⟨300, ?_⟩
      show (True ∧ (isO S1 10 w ∧ (isO (sI S1 1014 w ((nI (G.ev l).ix) + (kdI kd))) 10 w ∧ (True ∧ (isO (sI S1 1014 w ((nI (G.ev l).ix) + (kdI kd))) 10 w ∧ (True ∧ (isO (sR (sI S1 1014 w ((nI (G.ev l).ix) + (kdI kd))) 1013 w (mR (sI S1 1014 w ((nI (G.ev l).ix) + (kdI kd))) 1010 w)) 10 w ∧ (([] : List MV) = [] ∧ mret none (sp_wcs w F j pk pl me a d V cap M i A X G T H W cu sb ex) [.inr (.inr (some w))] S none (sR (sR (sI S1 1014 w ((nI (G.ev l).ix) + (kdI kd))) 1013 w (mR (sI S1 1014 w ((nI (G.ev l).ix) + (kdI kd))) 1010 w)) 1009 w none) cs sl))))))))
      subst hcu
      obtain ⟨hPG, hS⟩ := hp
      obtain ⟨⟨hf, hl, e9, e10, e11, e12, hz, hkd⟩, e13, hsb, e14⟩ := hS
      obtain ⟨F1, d1, p1, p2, p3, p4, p5⟩ := hQ
      have ow := p1.2.2.2.2.1.1
      obtain ⟨r1, k1⟩ := p1.fi (i9 := 1014) (v := nI (G.ev l).ix + kdI kd) (by decide)
      have e10' : mR (sI S1 1014 w (nI (G.ev l).ix + kdI kd)) 1010 w = some (X.ad l) := (p5 1010).trans e10
      have i14 : mI (sI S1 1014 w (nI (G.ev l).ix + kdI kd)) 1014 w = nI (G.ev l).ix + kdI kd := by rw [mI_sI, if_pos ⟨rfl, rfl⟩]
      have o1 : isO (sI S1 1014 w (nI (G.ev l).ix + kdI kd)) 10 w := isO_sI ow
      have kk1 : Keep (fun b => (F b).1 = j) S (sI S1 1014 w (nI (G.ev l).ix + kdI kd)) := p3.trN k1 (fun b hb q => by rw [← p2 b hb]; exact q)
      rw [e10']
      generalize sI S1 1014 w (nI (G.ev l).ix + kdI kd) = S2 at *
      obtain ⟨r2, k2⟩ := r1.fr (i9 := 1013) (v := some (X.ad l)) (by decide)
      have kk2 : Keep (fun b => (F b).1 = j) S (sR S2 1013 w (some (X.ad l))) := kk1.trN k2 (fun b hb q => by rw [← p2 b hb]; exact q)
      have o2 : isO (sR S2 1013 w (some (X.ad l))) 10 w := isO_sR o1
      have i142 : mI (sR S2 1013 w (some (X.ad l))) 1014 w = nI (G.ev l).ix + kdI kd := by rw [mI_sR]; exact i14
      have r13 : mR (sR S2 1013 w (some (X.ad l))) 1013 w = some (X.ad l) := by rw [mR_sR, if_pos ⟨rfl, rfl⟩]
      refine ⟨trivial, ow, o1, trivial, o1, trivial, o2, ?_⟩
      generalize sR S2 1013 w (some (X.ad l)) = S3 at *
      obtain ⟨r3, k3⟩ := r2.fr (i9 := 1009) (v := none) (by decide)
      have kk3 : Keep (fun b => (F b).1 = j) S (sR S3 1009 w none) := kk2.trN k3 (fun b hb q => by rw [← p2 b hb]; exact q)
      refine ⟨rfl, trivial, ⟨rfl, F1, d1, r3, p2, kk3, ?_, ?_, fun q hq => by cases hq; exact hl, ?_⟩, ?_, ?_⟩
      · show mR (sR S3 1009 w none) 1009 w = none
        rw [mR_sR, if_pos ⟨rfl, rfl⟩]
      · rw [mR_sR, if_neg (fun q => absurd q.1 (by decide)), r13]; rfl
      · rw [mI_sR]; exact i142
      · show cs ≤ wcC (csV G V M (some (f, l, z, kd)) sb ex) cap - wcC V cap
        omega
      · show sl ≤ wcZ (csV G V M (some (f, l, z, kd)) sb ex) cap - wcZ V cap
        omega
theorem u_wcs (l : Launch) : Us l yX9_closeSpan cX9_closeSpan 2 none 5 120 10 T_wcs := by
  intro Rc Rs av S cs sl K Kx h
  unfold T_wcs at h
  split at h
  · rename_i w_o
    obtain ⟨w, rfl, h_1⟩ := pa_of h
    obtain ⟨F, j, pk, pl, me, a, d, V, cap, M, i, A, X, G, T, H, W, cu, sb, ex, hp, hc, hs, hk⟩ := h_1
    refine ⟨(sp_wcs w F j pk pl me a d V cap M i A X G T H W cu sb ex), c_wcs l w F j pk pl me a d V cap M i A X G T H W cu sb ex, fun _ _ h9 => ⟨_, _, h9.1, h9.2.1.1.2.2.2.2.1.1⟩, ⟨rfl, hp⟩, hc, hs, fun S' h8 => by
      obtain ⟨-, h8⟩ := h8
      exact hk _ h8, fun _ _ q => q.elim⟩
  · exact h.elim
