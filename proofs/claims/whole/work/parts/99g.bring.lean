/-! ===== PatchReader.bring ===== -/
/-- events that are to be brought: span, step, character -/
abbrev Ev3 : Type := SpT × Nat × Option Nat
def evOf (s : SpT) : Nat → Nat → List Int32 → List Ev3
  | 0, _, _ => []
  | n + 1, k, sy => (s, k, if s.2.2.2.2.2.2.1 = 0 then some (sy.headD 0).toNatClampNeg else none) :: evOf s n (k + 1) (if s.2.2.2.2.2.2.1 = 0 then sy.tail else sy)
def evAll : List SpT → List Int32 → List Ev3
  | [], _ => []
  | s :: A, sy => evOf s s.2.2.1 0 sy ++ evAll A (if s.2.2.2.2.2.2.1 = 0 then sy.drop s.2.2.1 else sy)
/-- the run up to the first fault -/
def brR (L : List Nat) : List Ev3 → Gr → Tr → Option Nat → Gr → Tr → Nat → Prop
  | [], G, T, _, G', T', f => G' = G ∧ T' = T ∧ f = 0
  | x :: E, G, T, la, G', T', f => ∃ G1 T1 la1 f1, beS G T L la x.1 x.2.1 x.2.2 G1 T1 la1 f1 ∧ ((f1 ≠ 0 ∧ f = f1 ∧ G' = G1 ∧ T' = T1) ∨ (f1 = 0 ∧ brR L E G1 T1 la1 G' T' f))
/-- what it may cost -/
def brK (L : List Nat) : List Ev3 → Gr → Tr → Option Nat → Nat → Nat → Prop
  | [], _, _, _, _, _ => True
  | x :: E, G, T, la, C, Z => nc_bC G L la x.1 x.2.1 x.2.2 ≤ C ∧ nc_bZ G L la x.1 x.2.1 x.2.2 ≤ Z ∧ ∀ G1 T1 la1, beS G T L la x.1 x.2.1 x.2.2 G1 T1 la1 0 → brK L E G1 T1 la1 (C - nc_bC G L la x.1 x.2.1 x.2.2) (Z - nc_bZ G L la x.1 x.2.1 x.2.2)
def brO (F : Nat → Nat × Nat) (i j pk rw dr m d : Nat) : Prop := ∀ b, b = pk ∨ b = rw ∨ b = dr ∨ b = m ∨ b = d → (F b).1 ≠ j ∧ (F b).1 ≠ i
def BrM (S : MM) (F : Nat → Nat × Nat) (A : Nat → Nat) (X : GX) (G : Gr) (j r pk : Nat) (cu : Nat → Nat) (ids fnd i m d : Nat) (B L : List Nat) (qs qp qo rw dr : Nat) (TX : List Nat) (S1 : MM) (F1 : Nat → Nat × Nat) (A1 : Nat → Nat) (X1 : GX) (G1 : Gr) (T1 : Tr) (H1 : List Nat) (W1 : Nat → Nat) (st : RdT) (la : Option Nat) (tp : Nat) : Prop := RD S1 F1 j r pk cu ids fnd ∧ GI S1 F1 i A1 X1 G1 T1 H1 W1 ∧ FO S1 F1 ∧ i ≠ 0 ∧ i ≠ j ∧ By S1 m d B ∧ RdM S1 r m ids cu L qs qp qo st ∧ (∀ a ∈ L, a < 256) ∧ mR S1 910 r = la.map X1.ad ∧ (∀ e, la = some e → e < G1.n) ∧ isO S1 8 pk ∧ mR S1 800 pk = some rw ∧ By S1 rw dr TX ∧ mI S1 911 r = nI tp ∧ brO F1 i j pk rw dr m d ∧ (∀ b, b ∈ mL S → F1 b = F b) ∧ Keep (fun b => (F b).1 = i ∨ (F b).1 = j) S S1 ∧ (∀ c, c < 20 → c ≠ 3 → c ≠ 6 → c ≠ 7 → A1 c = A c) ∧ (∀ c, c < G.n → X1.ad c = X.ad c) ∧ G.n ≤ G1.n
/-- the run's place: what is left gives what is asked, and the cost that is left -/
def BrT (L : List Nat) (E0 : List Ev3) (G : Gr) (T : Tr) (kC kZ : Nat) (E : List Ev3) (G1 : Gr) (T1 : Tr) (la : Option Nat) (cs sl : Nat) : Prop := (∀ G' T' f, brR L E G1 T1 la G' T' f → brR L E0 G T none G' T' f) ∧ cs ≤ kC ∧ sl ≤ kZ ∧ brK L E G1 T1 la (kC - cs) (kZ - sl)
/-- the columns' place -/
def BrC (B L : List Nat) (qs qp qo : Nat) (AA : List SpT) (n : Nat) (f T I : Nat) (st : RdT) (M R : List SpT) (sy : List Int32) (TX : List Nat) (tp : Nat) (k : Nat) : Prop := (∃ se : RdT, rdL B L qs qp qo f T I st M = some (AA, n, se) ∧ qs ≤ se.1) ∧ AA = M ++ R ∧ M.length ≤ T ∧ T ≤ 8192 ∧ 8193 ≤ f + T ∧ f ≤ 8193 ∧ -(1073750016 * (8193 - (f : Int))) ≤ st.2.2.2 ∧ st.2.2.2 ≤ 1073750016 * (8193 - (f : Int)) ∧ (∃ fu, symsF TX fu tp = some sy) ∧ tp ≤ TX.length + 4 ∧ k + insN R = sy.length
def brQ (S S' : MM) (F : Nat → Nat × Nat) (A : Nat → Nat) (X : GX) (G : Gr) (T : Tr) (j r pk : Nat) (cu : Nat → Nat) (ids fnd i : Nat) (L : List Nat) (E0 : List Ev3) (v : Int32) : Prop := ∃ F' A' X' G' T' H' W' f, v = nI f ∧ f < 8 ∧ brR L E0 G T none G' T' f ∧ GI S' F' i A' X' G' T' H' W' ∧ FO S' F' ∧ RD S' F' j r pk cu ids fnd ∧ (∀ b, b ∈ mL S → F' b = F b) ∧ Keep (fun b => (F b).1 = i ∨ (F b).1 = j) S S' ∧ (∀ c, c < 20 → c ≠ 3 → c ≠ 6 → c ≠ 7 → A' c = A c) ∧ (∀ c, c < G.n → X'.ad c = X.ad c)
def I_br1 (r g : Nat) (F : Nat → Nat × Nat) (j pk : Nat) (cu : Nat → Nat) (ids fnd i : Nat) (A : Nat → Nat) (X : GX) (G : Gr) (T : Tr) (m d : Nat) (B L : List Nat) (qs qp qo rw dr : Nat) (TX : List Nat) (AA : List SpT) (n : Nat) (E0 : List Ev3) (kC kZ : Nat) (S : MM) (t : Nat) : KT := fun lo sk S1 cs sl => ∃ f U I st M R sy tp F1 A1 X1 G1 T1 H1 W1 la, t = 10000 * f ∧ BrC B L qs qp qo AA n f U I st M R sy TX tp 0 ∧ BrM S F A X G j r pk cu ids fnd i m d B L qs qp qo rw dr TX S1 F1 A1 X1 G1 T1 H1 W1 st la tp ∧ BrT L E0 G T kC kZ (evAll R sy) G1 T1 la cs sl ∧ lo = [(3, .inl (nI M.length)), (0, .inr (.inr (some r))), (2, .inr (.inr (some g)))] ∧ sk = []
def spO (s : SpT) (B L : List Nat) (qp : Nat) (st : RdT) : Prop := s.1 < 256 ∧ s.2.1 < 2147483648 ∧ s.2.2.2.1 < 2147483648 ∧ s.2.2.1 ≤ 8192 ∧ s.2.2.2.2.2.2.1 < 3 ∧ prR B qp L.length (s.2.2.2.1 - 1) [] s.2.2.2.2.2.1 = some (s.2.2.2.2.1, st.2.1) ∧ s.2.2.2.2.2.1 ≤ qp ∧ 0 ≤ s.2.2.2.2.2.2.2 ∧ s.2.2.2.2.2.2.2 ≤ 1000000000000000 ∧ 0 ≤ s.2.2.2.2.2.2.2 + opS s.2.2.2.2.2.2.1 * ((s.2.2.1 : Int) - 1)
def I_br2 (r g : Nat) (F : Nat → Nat × Nat) (j pk : Nat) (cu : Nat → Nat) (ids fnd i : Nat) (A : Nat → Nat) (X : GX) (G : Gr) (T : Tr) (m d : Nat) (B L : List Nat) (qs qp qo rw dr : Nat) (TX : List Nat) (AA : List SpT) (n : Nat) (E0 : List Ev3) (kC kZ : Nat) (S : MM) (t : Nat) : KT := fun lo sk S1 cs sl => ∃ f U I st M R sy tp F1 A1 X1 G1 T1 H1 W1 la s k h, t = 10000 * f + 1 + h ∧ k + h = s.2.2.1 ∧ spO s B L qp st ∧ (k = 0 ∨ s.2.1 + k ≤ 8193) ∧ SpM S1 r s ∧ BrC B L qs qp qo AA n f U I st (M ++ [s]) R sy TX tp (if s.2.2.2.2.2.2.1 = 0 then h else 0) ∧ BrM S F A X G j r pk cu ids fnd i m d B L qs qp qo rw dr TX S1 F1 A1 X1 G1 T1 H1 W1 st la tp ∧ BrT L E0 G T kC kZ (evOf s h k sy ++ evAll R (if s.2.2.2.2.2.2.1 = 0 then sy.drop h else sy)) G1 T1 la cs sl ∧ lo = [(4, .inl (nI k)), (3, .inl (nI M.length)), (0, .inr (.inr (some r))), (2, .inr (.inr (some g)))] ∧ sk = []
def T_rbr : TR := fun Rc Rs av S cs sl K _Kx => match av with
  | [.inr (.inr r_o), .inr (.inr m_o), .inr (.inr g_o)] => pa r_o fun r => (pa m_o fun m => (pa g_o fun g => (∃ (F : Nat → Nat × Nat) (j pk : Nat) (cu : Nat → Nat) (ids fnd i : Nat) (A : Nat → Nat) (X : GX) (G : Gr) (T : Tr) (H : List Nat) (W : Nat → Nat) (d : Nat) (B L : List Nat) (x y : Nat → Nat) (rw dr : Nat) (TX : List Nat) (sy : List Int32) (AA : List SpT) (kC kZ : Nat), (g = A 0 ∧ RD S F j r pk cu ids fnd ∧ GI S F i A X G T H W ∧ FO S F ∧ i ≠ 0 ∧ i ≠ j ∧ By S m d B ∧ 7 ≤ B.length ∧ B.length ≤ 32768 ∧ Cols B x y ∧ mI S 909 r = nI L.length ∧ L.length ≤ 256 ∧ (∀ a ∈ L, a < 256) ∧ (∀ k, k < L.length → eI S ids k = nI (L.getD k 0)) ∧ isO S 8 pk ∧ mR S 800 pk = some rw ∧ By S rw dr TX ∧ brO F i j pk rw dr m d ∧ syms TX = some sy ∧ rdAll B L (y 1) (y 2) (y 3) (x 1) (x 2) (x 3) sy.length = some AA ∧ brK L (evAll AA sy) G T none kC kZ) ∧ cs + kC ≤ Rc ∧ sl + kZ ≤ Rs ∧ (∀ (v : Int32) (S' : MM), (brQ S S' F A X G T j r pk cu ids fnd i L (evAll AA sy) v) → K (some (.inl v)) S' (cs + kC) (sl + kZ)))))
  | _ => False
def sp_rbr (r : Nat) (m : Nat) (g : Nat) (F : Nat → Nat × Nat) (j pk : Nat) (cu : Nat → Nat) (ids fnd i : Nat) (A : Nat → Nat) (X : GX) (G : Gr) (T : Tr) (H : List Nat) (W : Nat → Nat) (d : Nat) (B L : List Nat) (x y : Nat → Nat) (rw dr : Nat) (TX : List Nat) (sy : List Int32) (AA : List SpT) (kC kZ : Nat) : Sp := (fun av S => av = [.inr (.inr (some r)), .inr (.inr (some m)), .inr (.inr (some g))] ∧ (g = A 0 ∧ RD S F j r pk cu ids fnd ∧ GI S F i A X G T H W ∧ FO S F ∧ i ≠ 0 ∧ i ≠ j ∧ By S m d B ∧ 7 ≤ B.length ∧ B.length ≤ 32768 ∧ Cols B x y ∧ mI S 909 r = nI L.length ∧ L.length ≤ 256 ∧ (∀ a ∈ L, a < 256) ∧ (∀ k, k < L.length → eI S ids k = nI (L.getD k 0)) ∧ isO S 8 pk ∧ mR S 800 pk = some rw ∧ By S rw dr TX ∧ brO F i j pk rw dr m d ∧ syms TX = some sy ∧ rdAll B L (y 1) (y 2) (y 3) (x 1) (x 2) (x 3) sy.length = some AA ∧ brK L (evAll AA sy) G T none kC kZ), fun _ S => kC, fun _ S => kZ, fun _ S rv S' => ∃ v, rv = (some (.inl v)) ∧ (brQ S S' F A X G T j r pk cu ids fnd i L (evAll AA sy) v), fun _ _ _ _ => False)
def tX8_bring : CD := [(0, .aload_n 0), (1, .aload_n 1), (2, .invokevirtual 83), (5, .pop), (6, .aload_n 0), (7, .aconst_null), (8, .putfield 47), (11, .aload_n 0), (12, .iconst 0), (13, .putfield 51), (16, .aload_n 0), (17, .lconst 0), (18, .putfield 76), (21, .iconst 0), (22, .istore_n 3), (23, .iload_n 3), (24, .sipush 8192), (27, .if_icmp .ge 59), (30, .aload_n 0), (31, .getfield 21), (34, .invokevirtual 119), (37, .ifCond .ne 49), (40, .aload_n 0), (41, .invokevirtual 125), (44, .pop), (45, .iconst 0), (46, .istore 4), (48, .iload 4), (50, .aload_n 0), (51, .getfield 60), (54, .if_icmp .ge 26), (57, .aload_n 0), (58, .aload_n 2), (59, .iload 4), (61, .invokevirtual 139), (64, .istore 5), (66, .iload 5), (68, .ifCond .eq 6), (71, .iload 5), (73, .ireturn), (74, .iinc 4 1), (77, .goto (-29)), (80, .iinc 3 1), (83, .goto (-60)), (86, .iconst 0), (87, .ireturn)]
set_option maxRecDepth 100000 in
theorem kX8_bring : chk cX8_bring tX8_bring = true := by decide +kernel
theorem vX8_bring_83 : ∀ w ∈ ([.methodLink RX8 83 yX8_openColumns, .instanceMethod yX8_openColumns, .selects yX8_openColumns.cls yX8_openColumns yX8_openColumns, .initialized yX8_openColumns.cls, .code yX8_openColumns cX8_openColumns 2 (some .boolean)] : List Cond), w ∈ lw_good := List.forall_mem_cons.mpr ⟨mgd 1496 (by decide +kernel) (by decide +kernel), List.forall_mem_cons.mpr ⟨mgd 1498 (by decide +kernel) (by decide +kernel), List.forall_mem_cons.mpr ⟨mgd 38 (by decide +kernel) (by decide +kernel), List.forall_mem_cons.mpr ⟨mgd 134 (by decide +kernel) (by decide +kernel), List.forall_mem_cons.mpr ⟨mgd 1499 (by decide +kernel) (by decide +kernel), fun _ h => absurd h List.not_mem_nil⟩⟩⟩⟩⟩
theorem vX8_bring_119 : ∀ w ∈ ([.methodLink RX8 119 yX2_isDone, .instanceMethod yX2_isDone, .selects yX2_isDone.cls yX2_isDone yX2_isDone, .initialized yX2_isDone.cls, .code yX2_isDone cX2_isDone 1 (some .boolean)] : List Cond), w ∈ lw_good := List.forall_mem_cons.mpr ⟨mgd 1507 (by decide +kernel) (by decide +kernel), List.forall_mem_cons.mpr ⟨mgd 1487 (by decide +kernel) (by decide +kernel), List.forall_mem_cons.mpr ⟨mgd 1488 (by decide +kernel) (by decide +kernel), List.forall_mem_cons.mpr ⟨mgd 131 (by decide +kernel) (by decide +kernel), List.forall_mem_cons.mpr ⟨mgd 1489 (by decide +kernel) (by decide +kernel), fun _ h => absurd h List.not_mem_nil⟩⟩⟩⟩⟩
theorem vX8_bring_125 : ∀ w ∈ ([.methodLink RX8 125 yX8_readSpan, .instanceMethod yX8_readSpan, .selects yX8_readSpan.cls yX8_readSpan yX8_readSpan, .initialized yX8_readSpan.cls, .code yX8_readSpan cX8_readSpan 2 (some .boolean)] : List Cond), w ∈ lw_good := List.forall_mem_cons.mpr ⟨mgd 1534 (by decide +kernel) (by decide +kernel), List.forall_mem_cons.mpr ⟨mgd 1536 (by decide +kernel) (by decide +kernel), List.forall_mem_cons.mpr ⟨mgd 42 (by decide +kernel) (by decide +kernel), List.forall_mem_cons.mpr ⟨mgd 134 (by decide +kernel) (by decide +kernel), List.forall_mem_cons.mpr ⟨mgd 1537 (by decide +kernel) (by decide +kernel), fun _ h => absurd h List.not_mem_nil⟩⟩⟩⟩⟩
theorem vX8_bring_139 : ∀ w ∈ ([.methodLink RX8 139 yX8_bringEvent, .instanceMethod yX8_bringEvent, .selects yX8_bringEvent.cls yX8_bringEvent yX8_bringEvent, .initialized yX8_bringEvent.cls, .code yX8_bringEvent cX8_bringEvent 9 (some .int)] : List Cond), w ∈ lw_good := List.forall_mem_cons.mpr ⟨mgd 1551 (by decide +kernel) (by decide +kernel), List.forall_mem_cons.mpr ⟨mgd 1553 (by decide +kernel) (by decide +kernel), List.forall_mem_cons.mpr ⟨mgd 45 (by decide +kernel) (by decide +kernel), List.forall_mem_cons.mpr ⟨mgd 134 (by decide +kernel) (by decide +kernel), List.forall_mem_cons.mpr ⟨mgd 1554 (by decide +kernel) (by decide +kernel), fun _ h => absurd h List.not_mem_nil⟩⟩⟩⟩⟩
set_option maxRecDepth 100000 in
set_option maxHeartbeats 2000000 in
theorem c_rbr (l : Launch) : ∀ (r : Nat) (m : Nat) (g : Nat) (F : Nat → Nat × Nat) (j pk : Nat) (cu : Nat → Nat) (ids fnd i : Nat) (A : Nat → Nat) (X : GX) (G : Gr) (T : Tr) (H : List Nat) (W : Nat → Nat) (d : Nat) (B L : List Nat) (x y : Nat → Nat) (rw dr : Nat) (TX : List Nat) (sy : List Int32) (AA : List SpT) (kC kZ : Nat), Ct l yX8_bring cX8_bring 6 (some .int) 9 223 (sp_rbr r m g F j pk cu ids fnd i A X G T H W d B L x y rw dr TX sy AA kC kZ) := by
  intro r m g F j pk cu ids fnd i A X G T H W d B L x y rw dr TX sy AA kC kZ
  refine Ct.of (fX8, nX8, aX8, iX8, lX8, [(83, 0, 2, 1, T_rop), (119, 0, 1, 1, T_cdone), (125, 0, 1, 1, T_rsp), (139, 0, 3, 1, T_rbe)], qX8, gX8, []) false tX8_bring (fun _ S => look [(23, ([3,0,2], I_br1 r g F j pk cu ids fnd i A X G T m d B L (y 1) (y 2) (y 3) rw dr TX AA sy.length (evAll AA sy) kC kZ S)), (48, ([4,3,0,2], I_br2 r g F j pk cu ids fnd i A X G T m d B L (y 1) (y 2) (y 3) rw dr TX AA sy.length (evAll AA sy) kC kZ S))]) (by decide) (by decide) kX8_bring ⟨_, _, rfl⟩ fX8_ok nX8_ok aX8_ok iX8_ok lX8_ok (fun p e R s m args below meth c Q D cy z r A C hR1 hR2 => List.forall_mem_cons.mpr ⟨cOK_use (fun _ _ _ _ _ _ _ _ h => let ⟨sp, h1, h2, h3⟩ := u_rop l _ _ _ _ _ _ _ _ h; ⟨sp, cOK_V C h1 vX8_bring_83 ⟨by decide, by decide, by decide +kernel⟩ ⟨by rw [hR1]; decide, by rw [hR2]; decide⟩ (k := 9) (T := TX8) (N := 20) rfl (by decide) h2, h3⟩), List.forall_mem_cons.mpr ⟨cOK_use (fun _ _ _ _ _ _ _ _ h => let ⟨sp, h1, h2, h3⟩ := u_cdone l _ _ _ _ _ _ _ _ h; ⟨sp, cOK_V C h1 vX8_bring_119 ⟨by decide, by decide, by decide +kernel⟩ ⟨by rw [hR1]; decide, by rw [hR2]; decide⟩ (k := 3) (T := TX2) (N := 3) rfl (by decide) h2, h3⟩), List.forall_mem_cons.mpr ⟨cOK_use (fun _ _ _ _ _ _ _ _ h => let ⟨sp, h1, h2, h3⟩ := u_rsp l _ _ _ _ _ _ _ _ h; ⟨sp, cOK_V C h1 vX8_bring_125 ⟨by decide, by decide, by decide +kernel⟩ ⟨by rw [hR1]; decide, by rw [hR2]; decide⟩ (k := 9) (T := TX8) (N := 20) rfl (by decide) h2, h3⟩), List.forall_mem_cons.mpr ⟨cOK_use (fun _ _ _ _ _ _ _ _ h => let ⟨sp, h1, h2, h3⟩ := u_rbe l _ _ _ _ _ _ _ _ h; ⟨sp, cOK_V C h1 vX8_bring_139 ⟨by decide, by decide, by decide +kernel⟩ ⟨by rw [hR1]; decide, by rw [hR2]; decide⟩ (k := 9) (T := TX8) (N := 20) rfl (by decide) h2, h3⟩), fun _ h => absurd h List.not_mem_nil⟩⟩⟩⟩) qX8_ok gX8_ok rfl ?_ ?_
  · rintro _ S ⟨rfl, hp⟩
    refine ⟨Nat.le_of_ble_eq_true rfl, 300, ?_⟩
    show (0 = 0 ∧ (∃ (F_1 : Nat → Nat × Nat) (j_2 pk_3 : Nat) (cu_4 : Nat → Nat) (ids_5 fnd_6 d_7 : Nat) (B_8 : List Nat), (RD S F_1 j_2 r pk_3 cu_4 ids_5 fnd_6 ∧ By S m d_7 B_8 ∧ 7 ≤ B_8.length ∧ B_8.length ≤ 32768 ∧ (F_1 m).1 ≠ j_2 ∧ (F_1 d_7).1 ≠ j_2) ∧ 0 ≤ kC ∧ 0 ≤ kZ ∧ (∀ (x_10 : Int32) (S_9 : MM), (opQ S S_9 cu_4 m B_8 x_10) → (True ∧ (isO S_9 9 r ∧ (True ∧ (isO (sR S_9 910 r none) 9 r ∧ (True ∧ (isO (sI (sR S_9 910 r none) 911 r (0 : Int32)) 9 r ∧ (∃ k1, I_br1 r g F j pk cu ids fnd i A X G T m d B L (y 1) (y 2) (y 3) rw dr TX AA sy.length (evAll AA sy) kC kZ S k1 [(3, .inl (0 : Int32)), (0, .inr (.inr (some r))), (2, .inr (.inr (some g)))] [] (sJ (sI (sR S_9 910 r none) 911 r (0 : Int32)) 919 r (0 : Int64)) 0 0))))))))))
    obtain ⟨hg, hR, hG, hF, hi, hij, hB, b1, b2, hCo, h9, hL1, hL2, hids, p1, p2, p3, hO, hsy, hAll, hK⟩ := hp
    have om := hO m (by simp)
    have od := hO d (by simp)
    refine ⟨rfl, F, j, pk, cu, ids, fnd, d, B, ⟨hR, hB, b1, b2, om.1, od.1⟩, Nat.zero_le _, Nat.zero_le _, fun v S2 hq => ?_⟩
    obtain ⟨k1, hq⟩ := hq
    rcases hq with ⟨_, x', y', g1, g2⟩ | ⟨_, g1⟩
    · have u := ClK.uniq hCo.1 g1.1
      have hR2 := hR.kcu k1
      have w1 : RW (fun _ => False) [910, 911, 919] r S2 (sJ (sI (sR S2 910 r none) 911 r 0) 919 r 0) := ((RW.rf.wR (by decide)).wI (by decide)).wJ (by decide)
      have kj : Keep (fun b => (F b).1 = j) S (sJ (sI (sR S2 910 r none) 911 r 0) 919 r 0) := (k1.mono (fun b _ w => hR.own (Or.inr (Or.inr (Or.inr w))))).trN w1.1 (fun b _ z => hR.own (Or.inl (z.elim id False.elim)))
      have cx : ∀ k, k < 5 → Cu (sJ (sI (sR S2 910 r none) 911 r 0) 919 r 0) (cu (k + 1)) m (x k) (y k) := fun k hk => by
        rw [(u k hk).1, (u k hk).2]
        exact w1.cuk hR2 (a := k + 1) (by omega) (fun z => z) (g2 k hk)
      have kr := k1.2.1 r hR.1.1 (hR.ncu hR.1 (by decide))
      cases eL : rdL B L (y 1) (y 2) (y 3) 8193 0 0 (x 1, x 2, x 3, 0) [] with
      | none => unfold rdAll at hAll; rw [eL] at hAll; cases hAll
      | some z =>
        obtain ⟨A', I', se⟩ := z
        unfold rdAll at hAll
        rw [eL] at hAll
        have hAll : (if y 1 ≤ se.1 ∧ y 2 ≤ se.2.1 ∧ y 3 ≤ se.2.2.1 ∧ I' = sy.length then some A' else none) = some AA := hAll
        by_cases hc : y 1 ≤ se.1 ∧ y 2 ≤ se.2.1 ∧ y 3 ≤ se.2.2.1 ∧ I' = sy.length
        · rw [if_pos hc] at hAll
          injection hAll with hAll
          subst hAll
          obtain ⟨R, e1, e2⟩ := rdL_pre eL
          have e1 : A' = R := e1
          subst e1
          refine ⟨trivial, hR2.1, trivial, hR2.1, trivial, hR2.1, 10000 * 8193, 8193, 0, 0, (x 1, x 2, x 3, 0), [], A', sy, 0, F, A, X, G, T, H, W, none, rfl, ⟨⟨se, by rw [eL, hc.2.2.2], hc.1⟩, rfl, Nat.le_refl _, Nat.zero_le _, Nat.le_refl _, Nat.le_refl _, (by decide : -(1073750016 * (8193 - ((8193 : Nat) : Int))) ≤ (0 : Int)), (by decide : (0 : Int) ≤ 1073750016 * (8193 - ((8193 : Nat) : Int))), ⟨TX.length, hsy⟩, Nat.zero_le _, by rw [← hc.2.2.2, e2]⟩, ⟨w1.rd hR2 (by decide), hG.keep kj (fun b hb z => hij (hb.symm.trans z)) hF hi (fun _ _ => rfl), fun b hb => (kj.1 b (hF b hb)).1, hi, hij, hB.keep kj om.1 od.1, ⟨cx 1 (by decide), cx 2 (by decide), cx 3 (by decide), ?_, hL1, fun k hk => ?_, ?_⟩, hL2, ?_, (fun e he => by cases he), kj.isO p1, ((kj.2.1 pk p1.1 (hO pk (by simp)).1).2.1 800).trans p2, p3.keep kj (hO rw (by simp)).1 (hO dr (by simp)).1, ?_, hO, fun _ _ => rfl, kj.mono (fun b _ z => Or.inr z), fun _ _ _ _ _ => rfl, fun _ _ => rfl, Nat.le_refl _⟩, ⟨fun _ _ _ h => h, Nat.zero_le _, Nat.zero_le _, hK⟩, rfl, rfl⟩
          · exact (w1.2.1 909 (by decide)).trans ((kr.1 909).trans h9)
          · rw [w1.idk hR2 (fun b z => z.elim), (k1.2.1 ids hR.2.2.2.2.2.1.1 (hR.ncu hR.2.2.2.2.2.1 (by decide))).2.2.2.1]
            exact hids k hk
          · rw [mJ_sJ, if_pos ⟨rfl, rfl⟩]; rfl
          · show mR (sR S2 910 r none) 910 r = none
            rw [mR_sR, if_pos ⟨rfl, rfl⟩]
          · show mI (sI (sR S2 910 r none) 911 r 0) 911 r = 0
            exact mI_sIs
        · rw [if_neg hc] at hAll; cases hAll
    · exact absurd hCo (g1 x y)
  · intro av S hpre pc I hI k lo st S1 cs sl h
    obtain ⟨rfl, hp⟩ := hpre
    have hm := look_in hI
    simp only [List.mem_cons, List.not_mem_nil, or_false] at hm
    rcases hm with hm | hm
    · cases hm
      obtain ⟨f, U, I, st, M, R, sy1, tp, F1, A1, X1, G1, T1, H1, W1, la, rfl, hC, hM, hT, rfl, rfl⟩ := h
      obtain ⟨m1, m2, m3, m4, m5, m6, m7, m8, m9, m10, m11, m12, m13, m14, m15, m16, m17, m18, m19, m20⟩ := hM
      obtain ⟨⟨se, c1, c2⟩, c3, c4, c5, c6, c7, c8, c9, ⟨fu, c10⟩, c11, c12⟩ := hC
      refine ⟨300, ?_⟩
      show (((8192 : Int32) ≤ (nI M.length) → (([] : List MV) = [] ∧ mret (some .int) (sp_rbr r m g F j pk cu ids fnd i A X G T H W d B L x y rw dr TX sy AA kC kZ) [.inr (.inr (some r)), .inr (.inr (some m)), .inr (.inr (some g))] S (some (.inl (0 : Int32))) S1 cs sl)) ∧ (¬ (8192 : Int32) ≤ (nI M.length) → (isO S1 9 r ∧ (0 = 0 ∧ ((pa (mR S1 903 r) fun a_1 => (∃ (s_2 p_3 q_4 : Nat), (Cu S1 a_1 s_2 p_3 q_4) ∧ cs ≤ kC ∧ sl ≤ kZ ∧ (((¬ (tf (q_4 ≤ p_3)) = 0 → (([] : List MV) = [] ∧ mret (some .int) (sp_rbr r m g F j pk cu ids fnd i A X G T H W d B L x y rw dr TX sy AA kC kZ) [.inr (.inr (some r)), .inr (.inr (some m)), .inr (.inr (some g))] S (some (.inl (0 : Int32))) S1 cs sl)) ∧ ((tf (q_4 ≤ p_3)) = 0 → (0 = 0 ∧ (∃ (F_6 : Nat → Nat × Nat) (j_7 pk_8 : Nat) (cu_9 : Nat → Nat) (ids_10 fnd_11 m_12 d_13 : Nat) (B_14 L_15 : List Nat) (qs_16 qp_17 qo_18 : Nat) (st_19 : RdT), (RD S1 F_6 j_7 r pk_8 cu_9 ids_10 fnd_11 ∧ By S1 m_12 d_13 B_14 ∧ RdM S1 r m_12 ids_10 cu_9 L_15 qs_16 qp_17 qo_18 st_19 ∧ (∀ a ∈ L_15, a < 256) ∧ -1000000000000000 ≤ st_19.2.2.2 ∧ st_19.2.2.2 ≤ 1000000000000000) ∧ cs ≤ kC ∧ sl ≤ kZ ∧ (∀ (x_21 : Int32) (S_20 : MM), (rsQ r m_12 ids_10 cu_9 L_15 qs_16 qp_17 qo_18 st_19 B_14 S1 S_20 x_21) → (∃ k1, k1 < 10000 * f ∧ I_br2 r g F j pk cu ids fnd i A X G T m d B L (y 1) (y 2) (y 3) rw dr TX AA sy.length (evAll AA sy) kC kZ S k1 [(4, .inl (0 : Int32)), (3, .inl (nI M.length)), (0, .inr (.inr (some r))), (2, .inr (.inr (some g)))] [] S_20 cs sl))))))))))))))
      obtain ⟨f, rfl⟩ : ∃ f', f = f' + 1 := ⟨f - 1, by omega⟩
      have fin : ¬ (U < 8192 ∧ st.1 < y 1) → mret (some .int) (sp_rbr r m g F j pk cu ids fnd i A X G T H W d B L x y rw dr TX sy AA kC kZ) [.inr (.inr (some r)), .inr (.inr (some m)), .inr (.inr (some g))] S (some (.inl 0)) S1 cs sl := by
        intro hn
        rw [rdL_1 hn] at c1
        injection c1 with c1
        injection c1 with d1 d2
        have hR0 : R = [] := by
          have e : M ++ [] = M ++ R := by rw [List.append_nil, ← c3]; exact d1
          exact (List.append_cancel_left e).symm
        subst hR0
        exact ⟨trivial, ⟨0, rfl, F1, A1, X1, G1, T1, H1, W1, 0, rfl, by decide, hT.1 G1 T1 0 ⟨rfl, rfl, rfl⟩, m2, m3, m1, m16, m17, m18, m19⟩, hT.2.1, hT.2.2.1⟩
      refine if_le (a := 8192) (by decide) (by omega) (fun h8 => ⟨rfl, fin (fun w => by omega)⟩) (fun h8 => ⟨m1.1, rfl, pa_i (m1.2.2.2.1 2 (by decide)).1 ⟨m, st.1, y 1, m7.1, hT.2.1, hT.2.2.1, fun h7 => ⟨rfl, fin (fun w => by have := tf_1 h7; omega)⟩, fun h7 => ?_⟩⟩)
      have h7 := tf_0 h7
      have hc : U < 8192 ∧ st.1 < y 1 := Decidable.byContradiction (fun hn => by
        have c1 := c1
        rw [rdL_1 hn] at c1
        injection c1 with c1
        injection c1 with d1 d2
        injection d2 with d2 d3
        rw [← d3] at c2
        exact h7 c2)
      refine ⟨rfl, F1, j, pk, cu, ids, fnd, m, d, B, L, y 1, y 2, y 3, st, ⟨m1, m6, m7, m8, by omega, by omega⟩, hT.2.1, hT.2.2.1, fun v S2 hq => ?_⟩
      obtain ⟨g1, g2⟩ := hq
      rcases g2 with ⟨_, s, st', g3, g4, g5, g6, g7, g8, g9, g10, g11⟩ | ⟨_, g3⟩
      · by_cases h3 : s.2.2.1 ≤ 8192 - U ∧ ¬ (U = 0 ∧ s.2.2.2.1 = 0)
        · rw [rdL_4 hc g3 h3] at c1
          obtain ⟨R', r1, r2⟩ := rdL_pre c1
          have hR0 : R = s :: R' := by
            have e : M ++ R = M ++ (s :: R') := by rw [← c3, r1, List.append_assoc]; rfl
            exact List.append_cancel_left e
          subst hR0
          have sb := rdS_b m6.bytesLt g3
          obtain ⟨o1, o2, o3, o4, o5⟩ := rdS_ok g3
          have hCS : ∀ b, CuS cu b → ∃ k, k < 6 ∧ b = cu k := fun b w => w.elim (fun e => ⟨2, by decide, e⟩) (fun w => w.elim (fun e => ⟨3, by decide, e⟩) (fun e => ⟨4, by decide, e⟩))
          have ow : ∀ b, (b = r ∨ CuS cu b) → (F1 b).1 = j := fun b w => m1.own (w.elim Or.inl (fun w => Or.inr (Or.inr (Or.inr (hCS b w)))))
          have no : ∀ b, (F1 b).1 ≠ j → ¬ (b = r ∨ CuS cu b) := fun b hb w => hb (ow b w)
          have hv := vint_le (B := B) m7.2.1.2.2.2.2.1
          have hl : (M ++ [s]).length = M.length + 1 := by rw [List.length_append, List.length_singleton]
          refine ⟨10000 * f + 1 + s.2.2.1, by omega, f, U + s.2.2.1, _, st', M, R', sy1, tp, F1, A1, X1, G1, T1, H1, W1, la, s, 0, s.2.2.1, rfl, Nat.zero_add _, ⟨m8 _ o1, g6, g9, by omega, g4, o2, by rw [o3]; exact hv.2, o4, by omega, o5⟩, Or.inl rfl, g10, ⟨⟨se, c1, c2⟩, r1, by rw [hl]; omega, by omega, by omega, by omega, ?_, ?_, ⟨fu, c10⟩, c11, ?_⟩, ⟨g1.rd m1 (by decide), m2.keep g1.1 (fun b hb z => m5 (hb.symm.trans (ow b z))) m3 m4 (fun _ _ => rfl), fun b hb => (g1.1.1 b (m3 b hb)).1, m4, m5, g1.byc m1 m6 hCS, g11, m8, (g1.2.2.1 910 (by decide)).trans m9, m10, g1.1.isO m11, ((g1.1.2.1 pk m11.1 (no pk (m15 pk (by simp)).1)).2.1 800).trans m12, g1.byc m1 m13 hCS, (g1.2.1 911 (by decide)).trans m14, m15, m16, m17.trN g1.1 (fun b hb z => Or.inr (by rw [← m16 b hb]; exact ow b z)), m18, m19, m20⟩, hT, rfl, rfl⟩
          · rw [sb.1]
            rcases opS_b s.2.2.2.2.2.2.1 with w | w | w <;> rw [w] <;> omega
          · rw [sb.1]
            rcases opS_b s.2.2.2.2.2.2.1 with w | w | w <;> rw [w] <;> omega
          · rw [← c12, Nat.zero_add]; rfl
        · rw [rdL_3 hc g3 h3] at c1; cases c1
      · rw [rdL_2 hc g3] at c1; cases c1
    · cases hm
      obtain ⟨f, U, I, st, M, R, sy1, tp, F1, A1, X1, G1, T1, H1, W1, la, s, k, h, rfl, hkh, hs, hk8, hS, hC, hM, hT, rfl, rfl⟩ := h
      obtain ⟨m1, m2, m3, m4, m5, m6, m7, m8, m9, m10, m11, m12, m13, m14, m15, m16, m17, m18, m19, m20⟩ := hM
      obtain ⟨⟨se, c1, c2⟩, c3, c4, c5, c6, c7, c8, c9, ⟨fu, c10⟩, c11, c12⟩ := hC
      obtain ⟨s1, s2, s3, s4, s5, s6, s7, s8, s9, s10⟩ := hs
      have hl : (M ++ [s]).length = M.length + 1 := by rw [List.length_append, List.length_singleton]
      have tl : TX.length ≤ 32768 := m13.len
      have hg := hp.1
      refine ⟨300, ?_⟩
      show (isO S1 9 r ∧ (((mI S1 914 r) ≤ (nI k) → (∃ k1, k1 < 10000 * f + 1 + h ∧ I_br1 r g F j pk cu ids fnd i A X G T m d B L (y 1) (y 2) (y 3) rw dr TX AA sy.length (evAll AA sy) kC kZ S k1 [(3, .inl ((nI M.length) + (1 : Int32))), (0, .inr (.inr (some r))), (2, .inr (.inr (some g)))] [] S1 cs sl)) ∧ (¬ (mI S1 914 r) ≤ (nI k) → (0 = 0 ∧ (∃ (k9_1 : Nat), nI k = nI k9_1 ∧ (∃ (F_2 : Nat → Nat × Nat) (j_3 pk_4 : Nat) (cu_5 : Nat → Nat) (ids_6 fnd_7 i_8 : Nat) (A_9 : Nat → Nat) (X_10 : GX) (G_11 : Gr) (T_12 : Tr) (H_13 : List Nat) (W_14 : Nat → Nat) (m_15 d_16 : Nat) (B_17 L_18 : List Nat) (s_19 : SpT) (la_20 : Option Nat) (q_21 p'_22 rw_23 dr_24 : Nat) (TX_25 : List Nat) (tp_26 : Nat) (oc_27 : Option Nat), (g = A_9 0 ∧ BrR S1 F_2 j_3 r pk_4 cu_5 ids_6 fnd_7 i_8 A_9 X_10 G_11 T_12 H_13 W_14 m_15 d_16 B_17 L_18 s_19 la_20 q_21 p'_22 rw_23 dr_24 TX_25 tp_26 ∧ beP s_19 k9_1 oc_27 TX_25 tp_26) ∧ cs + (nc_bC G_11 L_18 la_20 s_19 k9_1 oc_27) ≤ kC ∧ sl + (nc_bZ G_11 L_18 la_20 s_19 k9_1 oc_27) ≤ kZ ∧ (∀ (x_29 : Int32) (S_28 : MM), (beQ S1 S_28 F_2 j_3 r pk_4 cu_5 ids_6 fnd_7 i_8 A_9 X_10 G_11 T_12 m_15 d_16 B_17 L_18 s_19 la_20 q_21 p'_22 rw_23 dr_24 TX_25 tp_26 k9_1 oc_27 x_29) → ((x_29 = 0 → (∃ k1, k1 < 10000 * f + 1 + h ∧ I_br2 r g F j pk cu ids fnd i A X G T m d B L (y 1) (y 2) (y 3) rw dr TX AA sy.length (evAll AA sy) kC kZ S k1 [(4, .inl ((nI k) + (1 : Int32))), (3, .inl (nI M.length)), (0, .inr (.inr (some r))), (2, .inr (.inr (some g)))] [] S_28 (cs + (nc_bC G_11 L_18 la_20 s_19 k9_1 oc_27)) (sl + (nc_bZ G_11 L_18 la_20 s_19 k9_1 oc_27)))) ∧ (¬ x_29 = 0 → (([] : List MV) = [] ∧ mret (some .int) (sp_rbr r m g F j pk cu ids fnd i A X G T H W d B L x y rw dr TX sy AA kC kZ) [.inr (.inr (some r)), .inr (.inr (some m)), .inr (.inr (some g))] S (some (.inl x_29)) S_28 (cs + (nc_bC G_11 L_18 la_20 s_19 k9_1 oc_27)) (sl + (nc_bZ G_11 L_18 la_20 s_19 k9_1 oc_27))))))))))))
      have cz : ∀ a : Nat, (if s.2.2.2.2.2.2.1 = 0 then a else 0) ≤ a := fun a => by split <;> omega
      rw [show mI S1 914 r = nI s.2.2.1 from hS.2.2.1]
      refine ⟨m1.1, if_le (by omega) (by omega) (fun h8 => ?_) (fun h8 => ?_)⟩
      · have h0 : h = 0 := by omega
        subst h0
        refine ⟨10000 * f, by omega, f, U, I, st, M ++ [s], R, sy1, tp, F1, A1, X1, G1, T1, H1, W1, la, rfl, ⟨⟨se, c1, c2⟩, c3, c4, c5, c6, c7, c8, c9, ⟨fu, c10⟩, c11, ?_⟩, ⟨m1, m2, m3, m4, m5, m6, m7, m8, m9, m10, m11, m12, m13, m14, m15, m16, m17, m18, m19, m20⟩, ?_, by rw [hl, ← nI_add]; rfl, rfl⟩
        · have := cz 0; omega
        · have e : evOf s 0 k sy1 ++ evAll R (if s.2.2.2.2.2.2.1 = 0 then sy1.drop 0 else sy1) = evAll R sy1 := by
            rw [List.drop_zero, ite_self]; rfl
          rw [e] at hT; exact hT
      · obtain ⟨h, rfl⟩ : ∃ h', h = h' + 1 := ⟨h - 1, by omega⟩
        have hq0 : (s.2.2.2.2.2.2.1 = 0 ∧ ∃ c sy2 f2, (if s.2.2.2.2.2.2.1 = 0 then some (sy1.headD 0).toNatClampNeg else none) = some c ∧ c < 2000000 ∧ symAt TX tp = nI c ∧ sy1 = nI c :: sy2 ∧ tp < TX.length ∧ symsF TX f2 (tp + wN (symAt TX tp)) = some sy2) ∨ (s.2.2.2.2.2.2.1 ≠ 0 ∧ (if s.2.2.2.2.2.2.1 = 0 then some (sy1.headD 0).toNatClampNeg else none) = none) := by
          by_cases kz : s.2.2.2.2.2.2.1 = 0
          · rw [if_pos kz] at c12
            refine Or.inl ⟨kz, ?_⟩
            cases ey : sy1 with
            | nil =>
              rw [ey] at c12
              have : h + 1 + insN R = 0 := c12
              omega
            | cons x0 sy2 =>
              rw [ey] at c10
              obtain ⟨f2, t1, t2, t3, t4⟩ := symsF_st c10
              obtain ⟨c, k1, k2⟩ := sym_ok (n := tp) m13.bytesLt (by omega) (by rw [t1]; exact t2)
              have ex : x0 = nI c := t1.symm.trans k2
              refine ⟨c, sy2, f2, ?_, k1, k2, by rw [ex], t3, by rw [t1]; exact t4⟩
              rw [if_pos kz]
              show some x0.toNatClampNeg = some c
              rw [ex, nI_clamp (by omega)]
          · exact Or.inr ⟨kz, if_neg kz⟩
        generalize hoc : (if s.2.2.2.2.2.2.1 = 0 then some (sy1.headD 0).toNatClampNeg else none) = oc at hq0
        have hE : evOf s (h + 1) k sy1 = (s, k, oc) :: evOf s h (k + 1) (if s.2.2.2.2.2.2.1 = 0 then sy1.tail else sy1) := by rw [evOf, hoc]
        rw [hE, List.cons_append] at hT
        obtain ⟨t1, t2, t3, t4, t5, t6⟩ := hT
        have t4 : nc_bC G1 L la s k oc ≤ kC - cs := t4
        have t5 : nc_bZ G1 L la s k oc ≤ kZ - sl := t5
        have th0 : 0 ≤ thI s k := by
          unfold thI
          by_cases k0 : s.2.2.2.2.2.2.1 = 0
          · rw [if_pos k0]; omega
          · rw [if_neg k0]
            by_cases k1 : s.2.2.2.2.2.2.1 = 1
            · rw [if_pos k1]; omega
            · rw [if_neg k1]
              have e1 : opS s.2.2.2.2.2.2.1 = -1 := by unfold opS; rw [if_neg k0, if_neg k1]
              rw [e1] at s10
              omega
        have th1 : thI s k < 4611686018427387904 := by
          unfold thI
          split
          · omega
          · split <;> omega
        have hBr : BrR S1 F1 j r pk cu ids fnd i A1 X1 G1 T1 H1 W1 m d B L s la (y 2) st.2.1 rw dr TX tp := ⟨⟨m1, m2, m3, m4, m5, m6, hS, s3, m7.2.2.2.1, m7.2.2.2.2.1, m8, m7.2.2.2.2.2.1, m9, m10, m7.2.1, s7, fun _ => s6⟩, m11, m12, m13, m14, by omega, m15⟩
        have a0 : g = A1 0 := hg.trans (m18 0 (by decide) (by decide) (by decide) (by decide)).symm
        refine ⟨rfl, k, rfl, F1, j, pk, cu, ids, fnd, i, A1, X1, G1, T1, H1, W1, m, d, B, L, s, la, y 2, st.2.1, rw, dr, TX, tp, oc, ⟨a0, hBr, ⟨s1, by omega, by omega, s5, th0, th1, by omega, ?_⟩⟩, by omega, by omega, fun v S2 hq => ?_⟩
        · rcases hq0 with ⟨z1, c, _, _, z2, z3, z4, _⟩ | ⟨z1, z2⟩
          · exact Or.inl ⟨z1, c, z2, z3, z4⟩
          · exact Or.inr ⟨z1, z2⟩
        · obtain ⟨F2, A2, X2, G2, T2, H2, W2, la2, f2, hv, hf8, hbe, d1, d2, d3, d4, d5, d6, d7, d8, d9⟩ := hq
          have kS2 : Keep (fun b => (F b).1 = i ∨ (F b).1 = j) S S2 := m17.trN d5 (fun b hb z => by rw [← m16 b hb]; exact z)
          have fS2 : ∀ b, b ∈ mL S → F2 b = F b := fun b hb => (d4 b (m17.1 b hb).1).trans (m16 b hb)
          have aS2 : ∀ c, c < 20 → c ≠ 3 → c ≠ 6 → c ≠ 7 → A2 c = A c := fun c e1 e2 e3 e4 => (d7 c e1 e2 e3 e4).trans (m18 c e1 e2 e3 e4)
          have xS2 : ∀ c, c < G.n → X2.ad c = X.ad c := fun c hc => (d8 c (by omega)).trans (m19 c hc)
          rw [hv]
          refine ⟨fun z => ?_, fun z => ⟨rfl, trivial, ⟨nI f2, rfl, F2, A2, X2, G2, T2, H2, W2, f2, rfl, hf8, t1 G2 T2 f2 ⟨G2, T2, la2, f2, hbe, Or.inl ⟨fun e => z (by rw [e]; rfl), rfl, rfl, rfl⟩⟩, d1, d2, d3, fS2, kS2, aS2, xS2⟩, ?_, ?_⟩⟩
          · have f0 : f2 = 0 := (nI_eq (b := 0) (by omega) (by decide)).1 z
            subst f0
            obtain ⟨⟨n1, n2, n3, n4, n5, n6, n7, n8, n9, n10, n11, n12, n13, n14, n15, n16, n17⟩, o1, o2, o3, o4, o5, o6⟩ := d9 rfl
            have gl : (agE G1 s.1).length ≤ 8192 := by
              have h1 := List.length_filter_le (fun k => decide (G1.ag (G1.ev k).sl = s.1)) (List.range G1.n)
              rw [List.length_range] at h1
              exact Nat.le_trans h1 m2.ok.hn
            have gn : G1.n ≤ G2.n ∧ s.2.1 + k ≤ 8192 := by
              rcases hbe with ⟨e, e1, e2, _⟩ | ⟨e1, e2 | ⟨Q, e2, e3 | ⟨_, _, e3⟩⟩⟩
              · have h1 : (agE G1 s.1)[s.2.1 + k]? = some e := e1
                have h2 := (List.getElem?_eq_some_iff.mp h1).1
                exact ⟨by rw [e2]; exact Nat.le_refl _, by omega⟩
              · exact absurd e2.2.1 (by decide)
              · exact absurd e3.2.1 (by decide)
              · rcases e3 with e3 | e3
                · exact absurd rfl e3.1
                · refine ⟨by rw [e3.2.1.cnt1]; omega, ?_⟩
                  unfold beO at e2
                  split at e2
                  · cases e2
                  · omega
            have hM2 : BrM S F A X G j r pk cu ids fnd i m d B L (y 1) (y 2) (y 3) rw dr TX S2 F2 A2 X2 G2 T2 H2 W2 st la2 (beT s TX tp) := ⟨n1, n2, n3, n4, n5, n6, ⟨d6.1 2 _ _ (Or.inl rfl) m7.1, n15, d6.1 4 _ _ (Or.inr rfl) m7.2.2.1, n9, n10, n12, d6.2.trans m7.2.2.2.2.2.2⟩, n11, n13, n14, o1, o2, o3, o4, o6, fS2, kS2, aS2, xS2, by omega⟩
            refine ⟨10000 * f + 1 + h, by omega, f, U, I, st, M, R, (if s.2.2.2.2.2.2.1 = 0 then sy1.tail else sy1), beT s TX tp, F2, A2, X2, G2, T2, H2, W2, la2, s, k + 1, h, rfl, by omega, ⟨s1, s2, s3, s4, s5, s6, s7, s8, s9, s10⟩, Or.inr (by omega), n7, ⟨⟨se, c1, c2⟩, c3, c4, c5, c6, c7, c8, c9, ?_, ?_, ?_⟩, hM2, ⟨?_, by omega, by omega, ?_⟩, by rw [← nI_add]; rfl, rfl⟩
            · rcases hq0 with ⟨kz, c, sy2, f3, _, _, _, z4, _, z6⟩ | ⟨kn, _⟩
              · refine ⟨f3, ?_⟩
                unfold beT
                rw [if_pos kz, if_pos kz, z6, z4]; rfl
              · refine ⟨fu, ?_⟩
                unfold beT
                rw [if_neg kn, if_neg kn]; exact c10
            · rcases hq0 with ⟨kz, c, sy2, f3, _, _, _, z4, z5, z6⟩ | ⟨kn, _⟩
              · unfold beT
                rw [if_pos kz]
                have := wN_le (symAt TX tp)
                omega
              · unfold beT
                rw [if_neg kn]; exact c11
            · rcases hq0 with ⟨kz, c, sy2, f3, _, _, _, z4, z5, z6⟩ | ⟨kn, _⟩
              · rw [if_pos kz] at c12 ⊢
                rw [if_pos kz]
                rw [z4] at c12 ⊢
                have c12 : h + 1 + insN R = sy2.length + 1 := c12
                show h + insN R = sy2.length
                omega
              · rw [if_neg kn] at c12 ⊢
                rw [if_neg kn]; exact c12
            · intro G' T' f' hr
              refine t1 G' T' f' ⟨G2, T2, la2, 0, hbe, Or.inr ⟨rfl, ?_⟩⟩
              have e : (if s.2.2.2.2.2.2.1 = 0 then sy1.drop (h + 1) else sy1) = (if s.2.2.2.2.2.2.1 = 0 then (if s.2.2.2.2.2.2.1 = 0 then sy1.tail else sy1).drop h else (if s.2.2.2.2.2.2.1 = 0 then sy1.tail else sy1)) := by
                by_cases kz : s.2.2.2.2.2.2.1 = 0
                · rw [if_pos kz, if_pos kz, if_pos kz]
                  cases sy1 with
                  | nil => rw [List.tail_nil, List.drop_nil, List.drop_nil]
                  | cons a b => rfl
                · rw [if_neg kz, if_neg kz, if_neg kz]
              rw [e]; exact hr
            · have e : (if s.2.2.2.2.2.2.1 = 0 then sy1.drop (h + 1) else sy1) = (if s.2.2.2.2.2.2.1 = 0 then (if s.2.2.2.2.2.2.1 = 0 then sy1.tail else sy1).drop h else (if s.2.2.2.2.2.2.1 = 0 then sy1.tail else sy1)) := by
                by_cases kz : s.2.2.2.2.2.2.1 = 0
                · rw [if_pos kz, if_pos kz, if_pos kz]
                  cases sy1 with
                  | nil => rw [List.tail_nil, List.drop_nil, List.drop_nil]
                  | cons a b => rfl
                · rw [if_neg kz, if_neg kz, if_neg kz]
              have h6 := t6 G2 T2 la2 hbe
              rw [e, Nat.sub_sub, Nat.sub_sub] at h6
              exact h6
          · show cs + nc_bC G1 L la s k oc ≤ kC
            omega
          · show sl + nc_bZ G1 L la s k oc ≤ kZ
            omega
theorem u_rbr (l : Launch) : Us l yX8_bring cX8_bring 6 (some .int) 9 223 9 T_rbr := by
  intro Rc Rs av S cs sl K Kx h
  unfold T_rbr at h
  split at h
  · rename_i r_o m_o g_o
    obtain ⟨r, rfl, h_1⟩ := pa_of h
    obtain ⟨m, rfl, h_2⟩ := pa_of h_1
    obtain ⟨g, rfl, h_3⟩ := pa_of h_2
    obtain ⟨F, j, pk, cu, ids, fnd, i, A, X, G, T, H, W, d, B, L, x, y, rw, dr, TX, sy, AA, kC, kZ, hp, hc, hs, hk⟩ := h_3
    refine ⟨(sp_rbr r m g F j pk cu ids fnd i A X G T H W d B L x y rw dr TX sy AA kC kZ), c_rbr l r m g F j pk cu ids fnd i A X G T H W d B L x y rw dr TX sy AA kC kZ, fun _ _ h9 => ⟨_, _, h9.1, h9.2.2.1.1⟩, ⟨rfl, hp⟩, hc, hs, fun v9 S' h8 => by
      obtain ⟨v8, h7, h8⟩ := h8
      cases h7
      exact hk _ _ h8, fun _ _ q => q.elim⟩
  · exact h.elim
