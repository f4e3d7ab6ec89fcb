/-! ===== The reference reads the spans ===== -/
abbrev SpR : Type := Nat × Nat × Nat
/-- one span: its agent, its first number, its size; where the next begins -/
def rd1 (B L : List Nat) (q p : Nat) : Option (SpR × Nat) := (vint B q p).1.bind fun a => if a < L.length then (vint B q (vint B q p).2).1.bind fun nu => (vint B q (vint B q (vint B q p).2).2).1.bind fun w => if 1 ≤ w then some ((L.getD a 0, nu, w), (vint B q (vint B q (vint B q p).2).2).2) else none else none
def rdSq (B L : List Nat) (q : Nat) : Nat → Nat → Nat → List SpR → Bool × List SpR
  | 0, _, _, A => (false, A)
  | f + 1, T, p, A => if p < q then (match rd1 B L q p with
    | none => (false, A)
    | some (s, p') => if T + s.2.2 ≤ 8192 then rdSq B L q f (T + s.2.2) p' (A ++ [s]) else (false, A)) else (true, A)
theorem rdSq_len {B L : List Nat} {q : Nat} : ∀ {f T p : Nat} {A : List SpR}, A.length ≤ (rdSq B L q f T p A).2.length
  | 0, _, _, _ => Nat.le_refl _
  | f + 1, T, p, A => by
    rw [rdSq]
    split
    · split
      · exact Nat.le_refl _
      · split
        · exact Nat.le_trans (by rw [List.length_append]; exact Nat.le_add_right _ _) rdSq_len
        · exact Nat.le_refl _
    · exact Nat.le_refl _
/-- the rows' size behind n spans, and what their growing costs -/
def gw (k : Nat) : Nat → Nat
  | 0 => k
  | n + 1 => if gw k n = n then 2 * gw k n else gw k n
def gwC (k : Nat) : Nat → Nat
  | 0 => 0
  | n + 1 => gwC k n + if gw k n = n then 7 else 0
def gwZ (k : Nat) : Nat → Nat
  | 0 => 0
  | n + 1 => gwZ k n + if gw k n = n then 14 * gw k n else 0
theorem gw_mono (k : Nat) {n m : Nat} (h : n ≤ m) : gwC k n ≤ gwC k m ∧ gwZ k n ≤ gwZ k m := by
  induction m with
  | zero => rw [show n = 0 by omega]; exact ⟨Nat.le_refl _, Nat.le_refl _⟩
  | succ m ih =>
    by_cases e : n = m + 1
    · rw [e]; exact ⟨Nat.le_refl _, Nat.le_refl _⟩
    · obtain ⟨a, b⟩ := ih (by omega)
      exact ⟨Nat.le_trans a (Nat.le_add_right _ _), Nat.le_trans b (Nat.le_add_right _ _)⟩
def gz (kz : Nat → Nat) (n : Nat) : Nat → Nat := upF kz 40 (gw (kz 40) n)
/-- the spans read so far -/
def spP (S : MM) (t : Nat) (z : Nat → Nat) (kz : Nat → Nat) (A : List SpR) : Prop := mI S 1549 t = nI A.length ∧ A.length ≤ kz 40 ∧ ∀ j, j < A.length → eI S (z 40) j = nI (A.getD j (0, 0, 0)).1 ∧ eJ S (z 44) j = lN (A.getD j (0, 0, 0)).2.1 ∧ eJ S (z 45) j = lN (A.getD j (0, 0, 0)).2.2
def sfs : List Nat := [1535, 1536, 1549]
def rsB (S S1 : MM) (F F1 : Nat → Nat × Nat) (t r : Nat) (z z1 : Nat → Nat) (Y : Nat → Nat → Nat) (R : Rb) (kz : Nat → Nat) (B L : List Nat) (p q : Nat) (A : List SpR) : Prop := MD S1 F1 t z1 Y R (gz kz A.length) ∧ rG gsL sfs S S1 F F1 t z z1 ∧ spP S1 t z1 (gz kz A.length) A ∧ lsP S1 t z1 L ∧ rdP9 S1 t r B p q
def rsF9 (B L : List Nat) (cA cE : Nat → Nat) (f T p : Nat) (A : List SpR) : Prop := rdSq B L (cE 1) 8193 0 (cA 1) [] = rdSq B L (cE 1) f T p A ∧ A.length ≤ T ∧ T ≤ 8192 ∧ 8193 ≤ f + T
def I_rq1 (t r : Nat) (F : Nat → Nat × Nat) (z : Nat → Nat) (Y : Nat → Nat → Nat) (R : Rb) (kz : Nat → Nat) (B L : List Nat) (cA cE : Nat → Nat) (S : MM) (k : Nat) : KT := fun lo st S1 cs sl => ∃ (f T p : Nat) (A : List SpR) (F1 : Nat → Nat × Nat) (z1 : Nat → Nat), k = 10 * f + 9 ∧ rsF9 B L cA cE f T p A ∧ rsB S S1 F F1 t r z z1 Y R kz B L p (cE 1) A ∧ lo = [(0, .inr (.inr (some t))), (1, .inr (.inl (lN T)))] ∧ st = [] ∧ cs = gwC (kz 40) A.length ∧ sl = gwZ (kz 40) A.length
def I_rq2 (t r : Nat) (F : Nat → Nat × Nat) (z : Nat → Nat) (Y : Nat → Nat → Nat) (R : Rb) (kz : Nat → Nat) (B L : List Nat) (cA cE : Nat → Nat) (S : MM) (k : Nat) : KT := fun lo st S1 cs sl => ∃ (f T p p1 : Nat) (A : List SpR) (F1 : Nat → Nat × Nat) (z1 : Nat → Nat), k = 10 * f + 8 ∧ rsF9 B L cA cE f T p A ∧ p < cE 1 ∧ (∀ n, (vint B (cE 1) p).1 = some n → p1 = (vint B (cE 1) p).2) ∧ rsB S S1 F F1 t r z z1 Y R kz B L p1 (cE 1) A ∧ lo = [(0, .inr (.inr (some t))), (1, .inr (.inl (lN T))), (3, .inl (agV L (vint B (cE 1) p).1))] ∧ st = [] ∧ cs = gwC (kz 40) A.length ∧ sl = gwZ (kz 40) A.length
def I_rq3 (t r : Nat) (F : Nat → Nat × Nat) (z : Nat → Nat) (Y : Nat → Nat → Nat) (R : Rb) (kz : Nat → Nat) (B L : List Nat) (cA cE : Nat → Nat) (S : MM) (k : Nat) : KT := fun lo st S1 cs sl => ∃ (f T p p2 : Nat) (A : List SpR) (F1 : Nat → Nat × Nat) (z1 : Nat → Nat) (ag : Int32) (fi : Int64), k = 10 * f + 7 ∧ rsF9 B L cA cE f T p A ∧ p < cE 1 ∧ ((rd1 B L (cE 1) p = none ∧ fi = -1) ∨ ∃ a nu, (vint B (cE 1) p).1 = some a ∧ a < L.length ∧ ag = nI (L.getD a 0) ∧ (vint B (cE 1) (vint B (cE 1) p).2).1 = some nu ∧ fi = lN nu ∧ p2 = (vint B (cE 1) (vint B (cE 1) p).2).2) ∧ rsB S S1 F F1 t r z z1 Y R kz B L p2 (cE 1) A ∧ lo = [(0, .inr (.inr (some t))), (1, .inr (.inl (lN T))), (3, .inl ag), (4, .inr (.inl fi))] ∧ st = [] ∧ cs = gwC (kz 40) A.length ∧ sl = gwZ (kz 40) A.length
def I_rq4 (t r : Nat) (F : Nat → Nat × Nat) (z : Nat → Nat) (Y : Nat → Nat → Nat) (R : Rb) (kz : Nat → Nat) (B L : List Nat) (cA cE : Nat → Nat) (S : MM) (k : Nat) : KT := fun lo st S1 cs sl => ∃ (f T p p3 : Nat) (A : List SpR) (F1 : Nat → Nat × Nat) (z1 : Nat → Nat) (ag : Int32) (fi ln : Int64), k = 10 * f + 6 ∧ rsF9 B L cA cE f T p A ∧ p < cE 1 ∧ ((rd1 B L (cE 1) p = none ∧ lg_cmp ln 1 < 0) ∨ ∃ s : SpR, rd1 B L (cE 1) p = some (s, p3) ∧ ag = nI s.1 ∧ fi = lN s.2.1 ∧ ln = lN s.2.2 ∧ 1 ≤ s.2.2 ∧ s.2.2 < 2147483648) ∧ rsB S S1 F F1 t r z z1 Y R kz B L p3 (cE 1) A ∧ lo = [(0, .inr (.inr (some t))), (1, .inr (.inl (lN T))), (3, .inl ag), (4, .inr (.inl fi)), (6, .inr (.inl ln))] ∧ st = [] ∧ cs = gwC (kz 40) A.length ∧ sl = gwZ (kz 40) A.length
def I_rq5 (t r : Nat) (F : Nat → Nat × Nat) (z : Nat → Nat) (Y : Nat → Nat → Nat) (R : Rb) (kz : Nat → Nat) (B L : List Nat) (cA cE : Nat → Nat) (S : MM) (k : Nat) : KT := fun lo st S1 cs sl => ∃ (f T p : Nat) (A : List SpR) (F1 : Nat → Nat × Nat) (z1 : Nat → Nat) (s : SpR), k = 10 * f + 15 ∧ rsF9 B L cA cE f T p (A ++ [s]) ∧ MD S1 F1 t z1 Y R (gz kz (A.length + 1)) ∧ rG gsL sfs S S1 F F1 t z z1 ∧ spP S1 t z1 (gz kz (A.length + 1)) A ∧ A.length < gw (kz 40) (A.length + 1) ∧ lsP S1 t z1 L ∧ rdP9 S1 t r B p (cE 1) ∧ lo = [(0, .inr (.inr (some t))), (1, .inr (.inl (lN T))), (3, .inl (nI s.1)), (4, .inr (.inl (lN s.2.1))), (6, .inr (.inl (lN s.2.2)))] ∧ st = [] ∧ cs = gwC (kz 40) (A.length + 1) ∧ sl = gwZ (kz 40) (A.length + 1)
def nsp (B L : List Nat) (cA cE : Nat → Nat) : Bool × List SpR := rdSq B L (cE 1) 8193 0 (cA 1) []
theorem rsB.nu {S S1 S2 : MM} {F F1 : Nat → Nat × Nat} {t r : Nat} {z z1 : Nat → Nat} {Y : Nat → Nat → Nat} {R : Rb} {kz : Nat → Nat} {B L : List Nat} {p q : Nat} {A : List SpR} (h : rsB S S1 F F1 t r z z1 Y R kz B L p q A) (hq : nuQ S1 S2 t B p q) : ∃ p', rsB S S2 F F1 t r z z1 Y R kz B L p' q A ∧ ∀ n, (vint B q p).1 = some n → p' = (vint B q p).2 := by
  obtain ⟨M1, hG, hP, hL, x1, x2, x3, x4, x5, x6⟩ := h
  obtain ⟨p', a1, a2, rfl, a4⟩ := hq
  have k1 : rK [] [1535] S1 (sI S1 1535 t (nI p')) t z1 := rK.sf 1535 (nI p')
  refine ⟨p', ⟨k1.md M1 (fun k hk => by cases hk) (by decide), hG.tr (k1.rg.mono (fun k hk => by cases hk) (by decide)), ⟨(k1.2.1 _ (by decide)).trans hP.1, hP.2⟩, k1.ls M1 (fun k hk => by cases hk) (by decide) (by decide) hL, x1, k1.by M1 x2 (fun k hk => by cases hk), ?_, ?_, a2, x6⟩, a4⟩
  · rw [mI_sI, if_pos ⟨rfl, rfl⟩]
  · rw [mI_sI, if_neg (fun e => absurd e.1 (by decide))]; exact x4
theorem rsF9.le {B L : List Nat} {cA cE : Nat → Nat} {f T p : Nat} {A : List SpR} (h : rsF9 B L cA cE f T p A) (k : Nat) : gwC k A.length ≤ gwC k (nsp B L cA cE).2.length ∧ gwZ k A.length ≤ gwZ k (nsp B L cA cE).2.length := by
  refine gw_mono k ?_
  unfold nsp
  rw [h.1]
  exact rdSq_len
def T_rrs : TR := fun Rc Rs av S cs sl K _Kx => match av with
  | [.inr (.inr t_o)] => pa t_o fun t => (∃ (F : Nat → Nat × Nat) (z : Nat → Nat) (Y : Nat → Nat → Nat) (R : Rb) (kz : Nat → Nat) (r : Nat) (B L : List Nat) (cA cE : Nat → Nat), (MD S F t z Y R kz ∧ rdC S t r z B cA cE ∧ lsP S t z L ∧ kz 40 ≤ 16384) ∧ cs + (gwC (kz 40) (nsp B L cA cE).2.length) ≤ Rc ∧ sl + (gwZ (kz 40) (nsp B L cA cE).2.length) ≤ Rs ∧ (∀ (S' : MM), (∃ F' z', MD S' F' t z' Y R (gz kz (nsp B L cA cE).2.length) ∧ rG gsL sfs S S' F F' t z z' ∧ spP S' t z' (gz kz (nsp B L cA cE).2.length) (nsp B L cA cE).2 ∧ lsP S' t z' L) → K (some (.inl (bI (nsp B L cA cE).1))) S' (cs + (gwC (kz 40) (nsp B L cA cE).2.length)) (sl + (gwZ (kz 40) (nsp B L cA cE).2.length))))
  | _ => False
def sp_rrs (t : Nat) (F : Nat → Nat × Nat) (z : Nat → Nat) (Y : Nat → Nat → Nat) (R : Rb) (kz : Nat → Nat) (r : Nat) (B L : List Nat) (cA cE : Nat → Nat) : Sp := (fun av S => av = [.inr (.inr (some t))] ∧ (MD S F t z Y R kz ∧ rdC S t r z B cA cE ∧ lsP S t z L ∧ kz 40 ≤ 16384), fun _ S => gwC (kz 40) (nsp B L cA cE).2.length, fun _ S => gwZ (kz 40) (nsp B L cA cE).2.length, fun _ S rv S' => rv = (some (.inl (bI (nsp B L cA cE).1))) ∧ (∃ F' z', MD S' F' t z' Y R (gz kz (nsp B L cA cE).2.length) ∧ rG gsL sfs S S' F F' t z z' ∧ spP S' t z' (gz kz (nsp B L cA cE).2.length) (nsp B L cA cE).2 ∧ lsP S' t z' L), fun _ _ _ _ => False)
def tX14_readSpans : CD := [(0, .aload_n 0), (1, .iconst 1), (2, .invokevirtual 458), (5, .aload_n 0), (6, .iconst 0), (7, .putfield 467), (10, .lconst 0), (11, .lstore_n 1), (12, .aload_n 0), (13, .getfield 398), (16, .aload_n 0), (17, .getfield 401), (20, .if_icmp .ge 132), (23, .aload_n 0), (24, .aload_n 0), (25, .invokevirtual 431), (28, .invokevirtual 470), (31, .istore_n 3), (32, .iload_n 3), (33, .ifCond .ge 9), (36, .ldc2_w 404), (39, .goto 7), (42, .aload_n 0), (43, .invokevirtual 431), (46, .lstore 4), (48, .lload 4), (50, .lconst 0), (51, .lcmp), (52, .ifCond .ge 9), (55, .ldc2_w 404), (58, .goto 7), (61, .aload_n 0), (62, .invokevirtual 431), (65, .lstore 6), (67, .lload 6), (69, .lconst 1), (70, .lcmp), (71, .ifCond .ge 5), (74, .iconst 0), (75, .ireturn), (76, .lload_n 1), (77, .lload 6), (79, .ladd), (80, .lstore_n 1), (81, .lload_n 1), (82, .ldc2_w 474), (85, .lcmp), (86, .ifCond .le 5), (89, .iconst 0), (90, .ireturn), (91, .aload_n 0), (92, .getfield 467), (95, .aload_n 0), (96, .getfield 103), (99, .arraylength), (100, .if_icmp .ne 7), (103, .aload_n 0), (104, .invokevirtual 476), (107, .aload_n 0), (108, .getfield 103), (111, .aload_n 0), (112, .getfield 467), (115, .iload_n 3), (116, .iastore), (117, .aload_n 0), (118, .getfield 115), (121, .aload_n 0), (122, .getfield 467), (125, .lload 4), (127, .lastore), (128, .aload_n 0), (129, .getfield 119), (132, .aload_n 0), (133, .getfield 467), (136, .lload 6), (138, .lastore), (139, .aload_n 0), (140, .dup), (141, .getfield 467), (144, .iconst 1), (145, .iadd), (146, .putfield 467), (149, .goto (-137)), (152, .iconst 1), (153, .ireturn)]
set_option maxRecDepth 100000 in
theorem kX14_readSpans : chk cX14_readSpans tX14_readSpans = true := by decide +kernel
theorem vX14_readSpans_458 : ∀ w ∈ ([.methodLink RX14 458 yX14_enter, .instanceMethod yX14_enter, .selects yX14_enter.cls yX14_enter yX14_enter, .initialized yX14_enter.cls, .code yX14_enter cX14_enter 2 none] : List Cond), w ∈ lw_good := List.forall_mem_cons.mpr ⟨mgd 2361 (by decide +kernel) (by decide +kernel), List.forall_mem_cons.mpr ⟨mgd 2363 (by decide +kernel) (by decide +kernel), List.forall_mem_cons.mpr ⟨mgd 103 (by decide +kernel) (by decide +kernel), List.forall_mem_cons.mpr ⟨mgd 136 (by decide +kernel) (by decide +kernel), List.forall_mem_cons.mpr ⟨mgd 2364 (by decide +kernel) (by decide +kernel), fun _ h => absurd h List.not_mem_nil⟩⟩⟩⟩⟩
theorem vX14_readSpans_431 : ∀ w ∈ ([.methodLink RX14 431 yX14_number, .instanceMethod yX14_number, .selects yX14_number.cls yX14_number yX14_number, .initialized yX14_number.cls, .code yX14_number cX14_number 5 (some .long)] : List Cond), w ∈ lw_good := List.forall_mem_cons.mpr ⟨mgd 2346 (by decide +kernel) (by decide +kernel), List.forall_mem_cons.mpr ⟨mgd 2348 (by decide +kernel) (by decide +kernel), List.forall_mem_cons.mpr ⟨mgd 100 (by decide +kernel) (by decide +kernel), List.forall_mem_cons.mpr ⟨mgd 136 (by decide +kernel) (by decide +kernel), List.forall_mem_cons.mpr ⟨mgd 2349 (by decide +kernel) (by decide +kernel), fun _ h => absurd h List.not_mem_nil⟩⟩⟩⟩⟩
theorem vX14_readSpans_470 : ∀ w ∈ ([.methodLink RX14 470 yX14_agentOf, .instanceMethod yX14_agentOf, .selects yX14_agentOf.cls yX14_agentOf yX14_agentOf, .initialized yX14_agentOf.cls, .code yX14_agentOf cX14_agentOf 3 (some .int)] : List Cond), w ∈ lw_good := List.forall_mem_cons.mpr ⟨mgd 2376 (by decide +kernel) (by decide +kernel), List.forall_mem_cons.mpr ⟨mgd 2378 (by decide +kernel) (by decide +kernel), List.forall_mem_cons.mpr ⟨mgd 106 (by decide +kernel) (by decide +kernel), List.forall_mem_cons.mpr ⟨mgd 136 (by decide +kernel) (by decide +kernel), List.forall_mem_cons.mpr ⟨mgd 2379 (by decide +kernel) (by decide +kernel), fun _ h => absurd h List.not_mem_nil⟩⟩⟩⟩⟩
theorem vX14_readSpans_476 : ∀ w ∈ ([.methodLink RX14 476 yX14_growSpans, .instanceMethod yX14_growSpans, .selects yX14_growSpans.cls yX14_growSpans yX14_growSpans, .initialized yX14_growSpans.cls, .code yX14_growSpans cX14_growSpans 2 none] : List Cond), w ∈ lw_good := List.forall_mem_cons.mpr ⟨mgd 2381 (by decide +kernel) (by decide +kernel), List.forall_mem_cons.mpr ⟨mgd 2383 (by decide +kernel) (by decide +kernel), List.forall_mem_cons.mpr ⟨mgd 107 (by decide +kernel) (by decide +kernel), List.forall_mem_cons.mpr ⟨mgd 136 (by decide +kernel) (by decide +kernel), List.forall_mem_cons.mpr ⟨mgd 2384 (by decide +kernel) (by decide +kernel), fun _ h => absurd h List.not_mem_nil⟩⟩⟩⟩⟩
set_option maxRecDepth 100000 in
set_option maxHeartbeats 2000000 in
theorem c_rrs (l : Launch) : ∀ (t : Nat) (F : Nat → Nat × Nat) (z : Nat → Nat) (Y : Nat → Nat → Nat) (R : Rb) (kz : Nat → Nat) (r : Nat) (B L : List Nat) (cA cE : Nat → Nat), Ct l yX14_readSpans cX14_readSpans 8 (some .boolean) 3 75 (sp_rrs t F z Y R kz r B L cA cE) := by
  intro t F z Y R kz r B L cA cE
  refine Ct.of (fX14, nX14, aX14, iX14, lX14, [(458, 0, 2, 0, T_rent), (431, 0, 1, 2, T_rnum), (470, 0, 2, 1, T_rago), (476, 0, 1, 0, T_rgs)], qX14, gX14, []) false tX14_readSpans (fun _ S => look [(12, ([0,1], I_rq1 t r F z Y R kz B L cA cE S)), (32, ([0,1,3], I_rq2 t r F z Y R kz B L cA cE S)), (48, ([0,1,3,4], I_rq3 t r F z Y R kz B L cA cE S)), (67, ([0,1,3,4,6], I_rq4 t r F z Y R kz B L cA cE S)), (107, ([0,1,3,4,6], I_rq5 t r F z Y R kz B L cA cE S))]) (by decide) (by decide) kX14_readSpans ⟨_, _, rfl⟩ fX14_ok nX14_ok aX14_ok iX14_ok lX14_ok (fun p e R s m args below meth c Q D cy z r A C hR1 hR2 => List.forall_mem_cons.mpr ⟨cOK_use (fun _ _ _ _ _ _ _ _ h => let ⟨sp, h1, h2, h3⟩ := u_rent l _ _ _ _ _ _ _ _ h; ⟨sp, cOK_V C h1 vX14_readSpans_458 ⟨by decide, by decide, by decide +kernel⟩ ⟨by rw [hR1]; decide, by rw [hR2]; decide⟩ (k := 15) (T := TX14) (N := 52) rfl (by decide) h2, h3⟩), List.forall_mem_cons.mpr ⟨cOK_use (fun _ _ _ _ _ _ _ _ h => let ⟨sp, h1, h2, h3⟩ := u_rnum l _ _ _ _ _ _ _ _ h; ⟨sp, cOK_V C h1 vX14_readSpans_431 ⟨by decide, by decide, by decide +kernel⟩ ⟨by rw [hR1]; decide, by rw [hR2]; decide⟩ (k := 15) (T := TX14) (N := 52) rfl (by decide) h2, h3⟩), List.forall_mem_cons.mpr ⟨cOK_use (fun _ _ _ _ _ _ _ _ h => let ⟨sp, h1, h2, h3⟩ := u_rago l _ _ _ _ _ _ _ _ h; ⟨sp, cOK_V C h1 vX14_readSpans_470 ⟨by decide, by decide, by decide +kernel⟩ ⟨by rw [hR1]; decide, by rw [hR2]; decide⟩ (k := 15) (T := TX14) (N := 52) rfl (by decide) h2, h3⟩), List.forall_mem_cons.mpr ⟨cOK_use (fun _ _ _ _ _ _ _ _ h => let ⟨sp, h1, h2, h3⟩ := u_rgs l _ _ _ _ _ _ _ _ h; ⟨sp, cOK_V C h1 vX14_readSpans_476 ⟨by decide, by decide, by decide +kernel⟩ ⟨by rw [hR1]; decide, by rw [hR2]; decide⟩ (k := 15) (T := TX14) (N := 52) rfl (by decide) h2, h3⟩), fun _ h => absurd h List.not_mem_nil⟩⟩⟩⟩) qX14_ok gX14_ok rfl ?_ ?_
  · rintro _ S ⟨rfl, hp⟩
    refine ⟨Nat.le_of_ble_eq_true rfl, 300, ?_⟩
    show (0 = 0 ∧ (∃ (c_1 : Nat), (1 : Int32) = nI c_1 ∧ (∃ (F_2 : Nat → Nat × Nat) (z_3 : Nat → Nat) (Y_4 : Nat → Nat → Nat) (R_5 : Rb) (kz_6 : Nat → Nat) (cA_7 cE_8 : Nat → Nat), (MD S F_2 t z_3 Y_4 R_5 kz_6 ∧ coP S z_3 cA_7 cE_8 ∧ c_1 < 5) ∧ 0 ≤ gwC (kz 40) (nsp B L cA cE).2.length ∧ 0 ≤ gwZ (kz 40) (nsp B L cA cE).2.length ∧ ((True ∧ (isO (sI (sI S 1535 t (nI (cA_7 c_1))) 1536 t (nI (cE_8 c_1))) 15 t ∧ (∃ k1, I_rq1 t r F z Y R kz B L cA cE S k1 [(0, .inr (.inr (some t))), (1, .inr (.inl (0 : Int64)))] [] (sI (sI (sI S 1535 t (nI (cA_7 c_1))) 1536 t (nI (cE_8 c_1))) 1549 t (0 : Int32)) 0 0)))))))
    obtain ⟨hM, ⟨r1, r2, hC, hc⟩, hL, hk40⟩ := hp
    obtain ⟨c1, c2⟩ := hc 1 (by decide)
    have k3 : rK [] sfs S (sI (sI (sI S 1535 t (nI (cA 1))) 1536 t (nI (cE 1))) 1549 t 0) t z := (((rK.sf 1535 (nI (cA 1))).mono (fun k hk => by cases hk) (by decide)).tr ((rK.sf 1536 (nI (cE 1))).mono (fun k hk => by cases hk) (by decide))).tr ((rK.sf 1549 0).mono (fun k hk => by cases hk) (by decide))
    have e0 : gz kz ([] : List SpR).length = kz := upF_id kz 40
    refine ⟨rfl, 1, rfl, F, z, Y, R, kz, cA, cE, ⟨hM, hC, by decide⟩, Nat.zero_le _, Nat.zero_le _, trivial, (hM 0).1, 10 * 8193 + 9, 8193, 0, cA 1, [], F, z, rfl, ⟨rfl, Nat.zero_le _, by decide, by decide⟩, ⟨by rw [e0]; exact k3.md hM (fun k hk => by cases hk) (by decide), k3.rg.mono (fun k hk => by cases hk) (fun f hf => hf), ⟨by rw [mI_sI, if_pos ⟨rfl, rfl⟩]; rfl, Nat.zero_le _, fun j hj => absurd hj (Nat.not_lt_zero j)⟩, k3.ls hM (fun k hk => by cases hk) (by decide) (by decide) hL, r1, k3.by hM r2 (fun k hk => by cases hk), ?_, ?_, c1, c2⟩, rfl, rfl, rfl, rfl⟩
    · rw [mI_sI, if_neg (fun e => absurd e.1 (by decide)), mI_sI, if_neg (fun e => absurd e.1 (by decide)), mI_sI, if_pos ⟨rfl, rfl⟩]
    · rw [mI_sI, if_neg (fun e => absurd e.1 (by decide)), mI_sI, if_pos ⟨rfl, rfl⟩]
  · intro av S hpre pc I hI k lo st S1 cs sl h
    obtain ⟨rfl, hp⟩ := hpre
    have hm := look_in hI
    simp only [List.mem_cons, List.not_mem_nil, or_false] at hm
    rcases hm with hm | hm | hm | hm | hm
    · cases hm
      obtain ⟨f, T, p, A, F1, z1, rfl, hF, hB, rfl, rfl, rfl, rfl⟩ := h
      refine ⟨300, ?_⟩
      show (isO S1 15 t ∧ (isO S1 15 t ∧ (((mI S1 1536 t) ≤ (mI S1 1535 t) → (([] : List MV) = [] ∧ mret (some .boolean) (sp_rrs t F z Y R kz r B L cA cE) [.inr (.inr (some t))] S (some (.inl (1 : Int32))) S1 (gwC (kz 40) A.length) (gwZ (kz 40) A.length))) ∧ (¬ (mI S1 1536 t) ≤ (mI S1 1535 t) → (0 = 0 ∧ (∃ (F_1 : Nat → Nat × Nat) (z_2 : Nat → Nat) (Y_3 : Nat → Nat → Nat) (R_4 : Rb) (kz_5 : Nat → Nat) (r_6 : Nat) (B_7 : List Nat) (p_8 q_9 : Nat), (MD S1 F_1 t z_2 Y_3 R_4 kz_5 ∧ rdP9 S1 t r_6 B_7 p_8 q_9) ∧ gwC (kz 40) A.length ≤ gwC (kz 40) (nsp B L cA cE).2.length ∧ gwZ (kz 40) A.length ≤ gwZ (kz 40) (nsp B L cA cE).2.length ∧ (∀ (S_10 : MM), (nuQ S1 S_10 t B_7 p_8 q_9) → (0 = 0 ∧ (∃ (F_11 : Nat → Nat × Nat) (z_12 : Nat → Nat) (Y_13 : Nat → Nat → Nat) (R_14 : Rb) (kz_15 : Nat → Nat) (L_16 : List Nat) (o_17 : Option Nat), (MD S_10 F_11 t z_12 Y_13 R_14 kz_15 ∧ lsP S_10 t z_12 L_16 ∧ L_16.length ≤ 256 ∧ (oJ (vint B_7 q_9 p_8).1) = oJ o_17 ∧ ∀ n, o_17 = some n → n < 2147483648) ∧ gwC (kz 40) A.length ≤ gwC (kz 40) (nsp B L cA cE).2.length ∧ gwZ (kz 40) A.length ≤ gwZ (kz 40) (nsp B L cA cE).2.length ∧ ((∃ k1, k1 < 10 * f + 9 ∧ I_rq2 t r F z Y R kz B L cA cE S k1 [(0, .inr (.inr (some t))), (1, .inr (.inl (lN T))), (3, .inl (agV L_16 o_17))] [] S_10 (gwC (kz 40) A.length) (gwZ (kz 40) A.length))))))))))))
      obtain ⟨hM, ⟨r1, r2, hC, hc⟩, hL0, hk40⟩ := hp
      obtain ⟨b1, b2⟩ := hF.le (kz 40)
      obtain ⟨M1, hG, hP, hL, x1, x2, x3, x4, x5, x6⟩ := id hB
      have hB8 : B.length ≤ 32768 := r2.2.2.1
      obtain ⟨e1, hAT, hT, hfT⟩ := id hF
      obtain ⟨f, rfl⟩ : ∃ f', f = f' + 1 := ⟨f - 1, by omega⟩
      rw [x3, x4]
      refine ⟨(M1 0).1, (M1 0).1, if_le (by omega) (by omega) (fun w => ?_) (fun w => ?_)⟩
      · have en : nsp B L cA cE = (true, A) := by
          unfold nsp
          rw [e1, rdSq, if_neg (by omega)]
        exact ⟨rfl, rt1, ⟨by rw [en]; rfl, F1, z1, by rw [en]; exact M1, hG, by rw [en]; exact hP, hL⟩, b1, b2⟩
      · refine ⟨rfl, F1, z1, Y, R, gz kz A.length, r, B, p, cE 1, ⟨M1, x1, x2, x3, x4, x5, x6⟩, b1, b2, fun S10 hq => ?_⟩
        obtain ⟨p', hB2, hp'⟩ := hB.nu hq
        refine ⟨rfl, F1, z1, Y, R, gz kz A.length, L, (vint B (cE 1) p).1, ⟨hB2.1, hB2.2.2.2.1, len_256 hL.2.2.1 hL.2.2.2, rfl, fun n e => vint_lt r2.2.2.2.1 e⟩, b1, b2, 10 * (f + 1) + 8, by omega, f + 1, T, p, p', A, F1, z1, rfl, hF, w, hp', hB2, rfl, rfl, rfl, rfl⟩
    · cases hm
      obtain ⟨f, T, p, p1, A, F1, z1, rfl, hF, hpq, hp1, hB, rfl, rfl, rfl, rfl⟩ := h
      refine ⟨300, ?_⟩
      show ((0 ≤ (agV L (vint B (cE 1) p).1) → (0 = 0 ∧ (∃ (F_1 : Nat → Nat × Nat) (z_2 : Nat → Nat) (Y_3 : Nat → Nat → Nat) (R_4 : Rb) (kz_5 : Nat → Nat) (r_6 : Nat) (B_7 : List Nat) (p_8 q_9 : Nat), (MD S1 F_1 t z_2 Y_3 R_4 kz_5 ∧ rdP9 S1 t r_6 B_7 p_8 q_9) ∧ gwC (kz 40) A.length ≤ gwC (kz 40) (nsp B L cA cE).2.length ∧ gwZ (kz 40) A.length ≤ gwZ (kz 40) (nsp B L cA cE).2.length ∧ (∀ (S_10 : MM), (nuQ S1 S_10 t B_7 p_8 q_9) → (∃ k1, k1 < 10 * f + 8 ∧ I_rq3 t r F z Y R kz B L cA cE S k1 [(0, .inr (.inr (some t))), (1, .inr (.inl (lN T))), (3, .inl (agV L (vint B (cE 1) p).1)), (4, .inr (.inl (oJ (vint B_7 q_9 p_8).1)))] [] S_10 (gwC (kz 40) A.length) (gwZ (kz 40) A.length)))))) ∧ (¬ 0 ≤ (agV L (vint B (cE 1) p).1) → (∃ k1, k1 < 10 * f + 8 ∧ I_rq3 t r F z Y R kz B L cA cE S k1 [(0, .inr (.inr (some t))), (1, .inr (.inl (lN T))), (3, .inl (agV L (vint B (cE 1) p).1)), (4, .inr (.inl (-1 : Int64)))] [] S1 (gwC (kz 40) A.length) (gwZ (kz 40) A.length))))
      obtain ⟨hM, ⟨r1, r2, hC, hc⟩, hL0, hk40⟩ := hp
      obtain ⟨b1, b2⟩ := hF.le (kz 40)
      obtain ⟨M1, hG, hP, hL, hR⟩ := id hB
      have mkN : rd1 B L (cE 1) p = none → ∀ ag, ∃ k1, k1 < 10 * f + 8 ∧ I_rq3 t r F z Y R kz B L cA cE S k1 [(0, .inr (.inr (some t))), (1, .inr (.inl (lN T))), (3, .inl ag), (4, .inr (.inl (-1)))] [] S1 (gwC (kz 40) A.length) (gwZ (kz 40) A.length) := fun e ag => ⟨10 * f + 7, by omega, f, T, p, p1, A, F1, z1, ag, -1, rfl, hF, hpq, Or.inl ⟨e, rfl⟩, hB, rfl, rfl, rfl, rfl⟩
      cases hv : (vint B (cE 1) p).1 with
      | none =>
        refine ⟨fun q => absurd q (show ¬ (0 : Int32) ≤ -1 by decide), fun _ => mkN ?_ _⟩
        unfold rd1; rw [hv]; rfl
      | some a =>
        by_cases ha : a < L.length
        · have ea : agV L (some a) = nI (L.getD a 0) := if_pos ha
          have hm9 : L.getD a 0 ∈ L := by
            rw [List.getD_eq_getElem?_getD, List.getElem?_eq_getElem ha]
            exact List.getElem_mem ha
          have h256 := hL.2.2.2 _ hm9
          rw [ea]
          refine ⟨fun _ => ⟨rfl, F1, z1, Y, R, gz kz A.length, r, B, p1, cE 1, ⟨M1, hR⟩, b1, b2, fun S10 hq => ?_⟩, fun q => absurd (Int32.not_lt.1 (nI_pos (by omega))) q⟩
          obtain ⟨p', hB2, hp'⟩ := hB.nu hq
          have e1 := hp1 a hv
          subst e1
          refine ⟨10 * f + 7, by omega, f, T, p, p', A, F1, z1, _, _, rfl, hF, hpq, ?_, hB2, rfl, rfl, rfl, rfl⟩
          cases hv2 : (vint B (cE 1) (vint B (cE 1) p).2).1 with
          | none =>
            refine Or.inl ⟨?_, rfl⟩
            unfold rd1; rw [hv]
            show (if a < L.length then _ else none) = none
            rw [if_pos ha, hv2]; rfl
          | some nu => exact Or.inr ⟨a, nu, hv, ha, rfl, rfl, rfl, hp' nu hv2⟩
        · have ea : agV L (some a) = -1 := if_neg ha
          rw [ea]
          refine ⟨fun q => absurd q (by decide), fun _ => mkN ?_ _⟩
          unfold rd1; rw [hv]
          show (if a < L.length then _ else none) = none
          rw [if_neg ha]
    · cases hm
      obtain ⟨f, T, p, p2, A, F1, z1, ag, fi, rfl, hF, hpq, hor, hB, rfl, rfl, rfl, rfl⟩ := h
      refine ⟨300, ?_⟩
      show ((0 ≤ (lg_cmp fi (0 : Int64)) → (0 = 0 ∧ (∃ (F_1 : Nat → Nat × Nat) (z_2 : Nat → Nat) (Y_3 : Nat → Nat → Nat) (R_4 : Rb) (kz_5 : Nat → Nat) (r_6 : Nat) (B_7 : List Nat) (p_8 q_9 : Nat), (MD S1 F_1 t z_2 Y_3 R_4 kz_5 ∧ rdP9 S1 t r_6 B_7 p_8 q_9) ∧ gwC (kz 40) A.length ≤ gwC (kz 40) (nsp B L cA cE).2.length ∧ gwZ (kz 40) A.length ≤ gwZ (kz 40) (nsp B L cA cE).2.length ∧ (∀ (S_10 : MM), (nuQ S1 S_10 t B_7 p_8 q_9) → (∃ k1, k1 < 10 * f + 7 ∧ I_rq4 t r F z Y R kz B L cA cE S k1 [(0, .inr (.inr (some t))), (1, .inr (.inl (lN T))), (3, .inl ag), (4, .inr (.inl fi)), (6, .inr (.inl (oJ (vint B_7 q_9 p_8).1)))] [] S_10 (gwC (kz 40) A.length) (gwZ (kz 40) A.length)))))) ∧ (¬ 0 ≤ (lg_cmp fi (0 : Int64)) → (∃ k1, k1 < 10 * f + 7 ∧ I_rq4 t r F z Y R kz B L cA cE S k1 [(0, .inr (.inr (some t))), (1, .inr (.inl (lN T))), (3, .inl ag), (4, .inr (.inl fi)), (6, .inr (.inl (-1 : Int64)))] [] S1 (gwC (kz 40) A.length) (gwZ (kz 40) A.length))))
      obtain ⟨hM, ⟨r1, r2, hC, hc⟩, hL0, hk40⟩ := hp
      obtain ⟨b1, b2⟩ := hF.le (kz 40)
      obtain ⟨M1, hG, hP, hL, hR⟩ := id hB
      rcases hor with ⟨hn, rfl⟩ | ⟨a, nu, hv, ha, rfl, hv2, rfl, rfl⟩
      · exact ⟨fun q => absurd q (by decide), fun _ => ⟨10 * f + 6, by omega, f, T, p, p2, A, F1, z1, ag, -1, -1, rfl, hF, hpq, Or.inl ⟨hn, by decide⟩, hB, rfl, rfl, rfl, rfl⟩⟩
      · have hnu := vint_lt r2.2.2.2.1 hv2
        refine ⟨fun _ => ⟨rfl, F1, z1, Y, R, gz kz A.length, r, B, _, cE 1, ⟨M1, hR⟩, b1, b2, fun S10 hq => ?_⟩, fun q => absurd ((lgg (a := nu) (b := 0) (by omega) (by decide)).2 (Nat.zero_le _)) q⟩
        obtain ⟨p', hB2, hp'⟩ := hB.nu hq
        refine ⟨10 * f + 6, by omega, f, T, p, p', A, F1, z1, _, _, _, rfl, hF, hpq, ?_, hB2, rfl, rfl, rfl, rfl⟩
        have e1 : ∀ o, (vint B (cE 1) (vint B (cE 1) (vint B (cE 1) p).2).2).1 = o → rd1 B L (cE 1) p = o.bind fun w => if 1 ≤ w then some ((L.getD a 0, nu, w), (vint B (cE 1) (vint B (cE 1) (vint B (cE 1) p).2).2).2) else none := fun o e => by
          unfold rd1
          rw [hv]
          show (if a < L.length then _ else none) = _
          rw [if_pos ha, hv2, ← e]; rfl
        cases hv3 : (vint B (cE 1) (vint B (cE 1) (vint B (cE 1) p).2).2).1 with
        | none => exact Or.inl ⟨e1 _ hv3, by decide⟩
        | some w =>
          have hw := vint_lt r2.2.2.2.1 hv3
          have e2 := e1 _ hv3
          have e2 : rd1 B L (cE 1) p = if 1 ≤ w then some ((L.getD a 0, nu, w), (vint B (cE 1) (vint B (cE 1) (vint B (cE 1) p).2).2).2) else none := e2
          by_cases c : 1 ≤ w
          · rw [if_pos c] at e2
            rw [← hp' w hv3] at e2
            exact Or.inr ⟨_, e2, rfl, rfl, rfl, c, hw⟩
          · rw [if_neg c] at e2
            exact Or.inl ⟨e2, (lgl (a := w) (b := 1) (by omega) (by decide)).2 (by omega)⟩
    · cases hm
      obtain ⟨f, T, p, p3, A, F1, z1, ag, fi, ln, rfl, hF, hpq, hor, hB, rfl, rfl, rfl, rfl⟩ := h
      refine ⟨300, ?_⟩
      show ((0 ≤ (lg_cmp ln (1 : Int64)) → (((lg_cmp ((lN T) + ln) (8192 : Int64)) ≤ 0 → (isO S1 15 t ∧ (isO S1 15 t ∧ (pa (mR S1 1540 t) fun a_1 => ∃ v_2 : Int32, (a_1 ∈ mL S1 ∧ ¬ mK S1 a_1 < 16 ∧ mK S1 a_1 < 29 ∧ v_2 = Int32.ofNat (mN S1 a_1) ∨ a_1 = mZ S1 ∧ v_2 = 0) ∧ ((¬ (mI S1 1549 t) = v_2 → (∃ k1, k1 < 10 * f + 6 ∧ I_rq5 t r F z Y R kz B L cA cE S k1 [(0, .inr (.inr (some t))), (1, .inr (.inl ((lN T) + ln))), (3, .inl ag), (4, .inr (.inl fi)), (6, .inr (.inl ln))] [] S1 (gwC (kz 40) A.length) (gwZ (kz 40) A.length))) ∧ ((mI S1 1549 t) = v_2 → (0 = 0 ∧ (∃ (F_3 : Nat → Nat × Nat) (z_4 : Nat → Nat) (Y_5 : Nat → Nat → Nat) (R_6 : Rb) (kz_7 : Nat → Nat), (MD S1 F_3 t z_4 Y_5 R_6 kz_7 ∧ mI S1 1549 t = nI (kz_7 40) ∧ kz_7 40 ≤ 8192) ∧ gwC (kz 40) A.length + 7 ≤ gwC (kz 40) (nsp B L cA cE).2.length ∧ gwZ (kz 40) A.length + (14 * kz_7 40) ≤ gwZ (kz 40) (nsp B L cA cE).2.length ∧ (∀ (S_8 : MM), (∃ F' z', MD S_8 F' t z' Y_5 R_6 (upF kz_7 40 (2 * kz_7 40)) ∧ grX gsL S1 S_8 F_3 F' t z_4 z' (2 * kz_7 40) ∧ ∀ k, k ∈ gsL → z' k ∉ mL S1) → (∃ k1, k1 < 10 * f + 6 ∧ I_rq5 t r F z Y R kz B L cA cE S k1 [(0, .inr (.inr (some t))), (1, .inr (.inl ((lN T) + ln))), (3, .inl ag), (4, .inr (.inl fi)), (6, .inr (.inl ln))] [] S_8 (gwC (kz 40) A.length + 7) (gwZ (kz 40) A.length + (14 * kz_7 40)))))))))))) ∧ (¬ (lg_cmp ((lN T) + ln) (8192 : Int64)) ≤ 0 → (([] : List MV) = [] ∧ mret (some .boolean) (sp_rrs t F z Y R kz r B L cA cE) [.inr (.inr (some t))] S (some (.inl (0 : Int32))) S1 (gwC (kz 40) A.length) (gwZ (kz 40) A.length))))) ∧ (¬ 0 ≤ (lg_cmp ln (1 : Int64)) → (([] : List MV) = [] ∧ mret (some .boolean) (sp_rrs t F z Y R kz r B L cA cE) [.inr (.inr (some t))] S (some (.inl (0 : Int32))) S1 (gwC (kz 40) A.length) (gwZ (kz 40) A.length))))
      obtain ⟨hM, ⟨r1, r2, hC, hc⟩, hL0, hk40⟩ := hp
      obtain ⟨b1, b2⟩ := hF.le (kz 40)
      obtain ⟨M1, hG, hP, hL, hR⟩ := id hB
      obtain ⟨e1, hAT, hT, hfT⟩ := id hF
      obtain ⟨f, rfl⟩ : ∃ f', f = f' + 1 := ⟨f - 1, by omega⟩
      have e1 : nsp B L cA cE = rdSq B L (cE 1) (f + 1) T p A := e1
      rw [rdSq, if_pos hpq] at e1
      have bad : nsp B L cA cE = (false, A) → (([] : List MV) = [] ∧ mret (some .boolean) (sp_rrs t F z Y R kz r B L cA cE) [.inr (.inr (some t))] S (some (.inl (0 : Int32))) S1 (gwC (kz 40) A.length) (gwZ (kz 40) A.length)) := fun en => ⟨rfl, rt0, ⟨by rw [en]; rfl, F1, z1, by rw [en]; exact M1, hG, by rw [en]; exact hP, hL⟩, b1, b2⟩
      rcases hor with ⟨hn, hlt⟩ | ⟨s, hs, rfl, rfl, rfl, h1, h2⟩
      · rw [hn] at e1
        exact ⟨fun q => absurd hlt (Int32.not_lt.2 q), fun _ => bad e1⟩
      · rw [hs] at e1
        have e1 : nsp B L cA cE = if T + s.2.2 ≤ 8192 then rdSq B L (cE 1) f (T + s.2.2) p3 (A ++ [s]) else (false, A) := e1
        rw [lN_plus]
        have hle : lg_cmp (lN (T + s.2.2)) 8192 ≤ 0 ↔ T + s.2.2 ≤ 8192 := lgk (a := T + s.2.2) (b := 8192) (by omega) (by decide)
        refine ⟨fun _ => ⟨fun q => ?_, fun q => bad ?_⟩, fun q => absurd ((lgg (a := s.2.2) (b := 1) (by omega) (by decide)).2 h1) q⟩
        · have q := hle.1 q
          rw [if_pos q] at e1
          have hF2 : rsF9 B L cA cE f (T + s.2.2) p3 (A ++ [s]) := ⟨e1, by rw [List.length_append]; show A.length + 1 ≤ _; omega, q, by omega⟩
          obtain ⟨d1, d2⟩ := hF2.le (kz 40)
          rw [List.length_append] at d1 d2
          have d1 : gwC (kz 40) (A.length + 1) ≤ gwC (kz 40) (nsp B L cA cE).2.length := d1
          have d2 : gwZ (kz 40) (A.length + 1) ≤ gwZ (kz 40) (nsp B L cA cE).2.length := d2
          have r40 := M1 1 40 (by decide)
          have ek : gz kz A.length 40 = gw (kz 40) A.length := upF_s
          have n40 : mN S1 (z1 40) = gw (kz 40) A.length := r40.2.2.2.trans ek
          have hkb := (M1 11).2.2.2.1
          rw [ek] at hkb
          have hk16 := (M1 11).2.2.1
          rw [ek] at hk16
          have hPl : A.length ≤ gw (kz 40) A.length := by have := hP.2.1; rw [ek] at this; exact this
          rw [hP.1]
          refine ⟨(M1 0).1, (M1 0).1, pa_i r40.1 ⟨nI (gw (kz 40) A.length), Or.inl ⟨r40.2.2.1.1, by rw [r40.2.2.1.2]; decide, by rw [r40.2.2.1.2]; decide, by rw [n40]; rfl⟩, if_ne (by omega) (by omega) (fun w => ?_) (fun w => ?_)⟩⟩
          · have g1 : gw (kz 40) (A.length + 1) = gw (kz 40) A.length := if_neg (fun e => w e.symm)
            have g2 : gwC (kz 40) (A.length + 1) = gwC (kz 40) A.length := by rw [gwC, if_neg (fun e => w e.symm)]; rfl
            have g3 : gwZ (kz 40) (A.length + 1) = gwZ (kz 40) A.length := by rw [gwZ, if_neg (fun e => w e.symm)]; rfl
            have g4 : gz kz (A.length + 1) = gz kz A.length := by unfold gz; rw [g1]
            exact ⟨10 * f + 15, by omega, f, T + s.2.2, p3, A, F1, z1, s, rfl, hF2, by rw [g4]; exact M1, hG, by rw [g4]; exact hP, by rw [g1]; omega, hL, hR, rfl, rfl, g2.symm, g3.symm⟩
          · have g1 : gw (kz 40) (A.length + 1) = 2 * gw (kz 40) A.length := if_pos w.symm
            have g2 : gwC (kz 40) (A.length + 1) = gwC (kz 40) A.length + 7 := by rw [gwC, if_pos w.symm]
            have g3 : gwZ (kz 40) (A.length + 1) = gwZ (kz 40) A.length + 14 * gw (kz 40) A.length := by rw [gwZ, if_pos w.symm]
            have g4 : gz kz (A.length + 1) = upF (gz kz A.length) 40 (2 * gz kz A.length 40) := by
              unfold gz
              rw [upF_s, upF_up, g1]
            rw [g2] at d1
            rw [g3] at d2
            refine ⟨rfl, F1, z1, Y, R, gz kz A.length, ⟨M1, by rw [ek, ← w], by rw [ek]; omega⟩, by omega, by rw [ek]; exact d2, fun S8 h8 => ?_⟩
            obtain ⟨F2, z2, M8, gX, hfr⟩ := h8
            have hG8 : rG gsL [] S1 S8 F1 F2 t z1 z2 := gX.rg hfr
            obtain ⟨x1, x2, x3, x4, x5, x6⟩ := hR
            have r44 := M1 1 44 (by decide)
            have r45 := M1 1 45 (by decide)
            refine ⟨10 * f + 15, by omega, f, T + s.2.2, p3, A, F2, z2, s, rfl, hF2, by rw [g4]; exact M8, hG.tr (hG8.mono (fun k hk => hk) (fun f hf => by cases hf)), ⟨(hG8.2.2.1 _ (by decide)).trans hP.1, by rw [g4, upF_s, ek]; omega, fun j hj => ?_⟩, by rw [g1]; omega, hG8.ls M1 (by decide) (by decide) (by decide) hL, ⟨(hG8.2.2.2.1 _ (by decide)).trans x1, hG8.by M1 x2 (fun k hk => ?_), (hG8.2.2.1 _ (by decide)).trans x3, (hG8.2.2.1 _ (by decide)).trans x4, x5, x6⟩, rfl, rfl, g2.symm, by rw [g3, ek]⟩
            · obtain ⟨a1, a2, a3⟩ := hP.2.2 j hj
              have n44 : mN S1 (z1 44) = gw (kz 40) A.length := r44.2.2.2.trans ek
              have n45 : mN S1 (z1 45) = gw (kz 40) A.length := r45.2.2.2.trans ek
              rw [(gX.2.2.2.2.2.2 40 (by decide)).2.2.2.2.1 rfl j (by rw [n40]; omega), (gX.2.2.2.2.2.2 44 (by decide)).2.2.2.2.2 rfl j (by rw [n44]; omega), (gX.2.2.2.2.2.2 45 (by decide)).2.2.2.2.2 rfl j (by rw [n45]; omega)]
              exact ⟨a1, a2, a3⟩
            · have : ∀ k, k ∈ gsL → k ∈ mdL ∧ mdK k ≠ 16 := by decide
              exact x2.nz M1 (this k hk).1 (this k hk).2
        · rw [e1, if_neg (fun w => q (hle.2 w))]
    · cases hm
      obtain ⟨f, T, p, A, F1, z1, s, rfl, hF, h1, hG, hP, hlt, hL, hR, rfl, rfl, rfl, rfl⟩ := h
      refine ⟨300, ?_⟩
      show (isO S1 15 t ∧ (isO S1 15 t ∧ (pa (mR S1 1540 t) fun a_1 => isO S1 17 a_1 ∧ inR S1 a_1 (mI S1 1549 t) ∧ (isO (rI S1 a_1 (upd (eI S1 a_1) (mI S1 1549 t).toNatClampNeg (nI s.1))) 15 t ∧ (isO (rI S1 a_1 (upd (eI S1 a_1) (mI S1 1549 t).toNatClampNeg (nI s.1))) 15 t ∧ (pa (mR (rI S1 a_1 (upd (eI S1 a_1) (mI S1 1549 t).toNatClampNeg (nI s.1))) 1544 t) fun a_2 => isO (rI S1 a_1 (upd (eI S1 a_1) (mI S1 1549 t).toNatClampNeg (nI s.1))) 18 a_2 ∧ inR (rI S1 a_1 (upd (eI S1 a_1) (mI S1 1549 t).toNatClampNeg (nI s.1))) a_2 (mI (rI S1 a_1 (upd (eI S1 a_1) (mI S1 1549 t).toNatClampNeg (nI s.1))) 1549 t) ∧ (isO (rJ (rI S1 a_1 (upd (eI S1 a_1) (mI S1 1549 t).toNatClampNeg (nI s.1))) a_2 (vp_updL (eJ (rI S1 a_1 (upd (eI S1 a_1) (mI S1 1549 t).toNatClampNeg (nI s.1))) a_2) (mI (rI S1 a_1 (upd (eI S1 a_1) (mI S1 1549 t).toNatClampNeg (nI s.1))) 1549 t).toNatClampNeg (lN s.2.1))) 15 t ∧ (isO (rJ (rI S1 a_1 (upd (eI S1 a_1) (mI S1 1549 t).toNatClampNeg (nI s.1))) a_2 (vp_updL (eJ (rI S1 a_1 (upd (eI S1 a_1) (mI S1 1549 t).toNatClampNeg (nI s.1))) a_2) (mI (rI S1 a_1 (upd (eI S1 a_1) (mI S1 1549 t).toNatClampNeg (nI s.1))) 1549 t).toNatClampNeg (lN s.2.1))) 15 t ∧ (pa (mR (rJ (rI S1 a_1 (upd (eI S1 a_1) (mI S1 1549 t).toNatClampNeg (nI s.1))) a_2 (vp_updL (eJ (rI S1 a_1 (upd (eI S1 a_1) (mI S1 1549 t).toNatClampNeg (nI s.1))) a_2) (mI (rI S1 a_1 (upd (eI S1 a_1) (mI S1 1549 t).toNatClampNeg (nI s.1))) 1549 t).toNatClampNeg (lN s.2.1))) 1545 t) fun a_3 => isO (rJ (rI S1 a_1 (upd (eI S1 a_1) (mI S1 1549 t).toNatClampNeg (nI s.1))) a_2 (vp_updL (eJ (rI S1 a_1 (upd (eI S1 a_1) (mI S1 1549 t).toNatClampNeg (nI s.1))) a_2) (mI (rI S1 a_1 (upd (eI S1 a_1) (mI S1 1549 t).toNatClampNeg (nI s.1))) 1549 t).toNatClampNeg (lN s.2.1))) 18 a_3 ∧ inR (rJ (rI S1 a_1 (upd (eI S1 a_1) (mI S1 1549 t).toNatClampNeg (nI s.1))) a_2 (vp_updL (eJ (rI S1 a_1 (upd (eI S1 a_1) (mI S1 1549 t).toNatClampNeg (nI s.1))) a_2) (mI (rI S1 a_1 (upd (eI S1 a_1) (mI S1 1549 t).toNatClampNeg (nI s.1))) 1549 t).toNatClampNeg (lN s.2.1))) a_3 (mI (rJ (rI S1 a_1 (upd (eI S1 a_1) (mI S1 1549 t).toNatClampNeg (nI s.1))) a_2 (vp_updL (eJ (rI S1 a_1 (upd (eI S1 a_1) (mI S1 1549 t).toNatClampNeg (nI s.1))) a_2) (mI (rI S1 a_1 (upd (eI S1 a_1) (mI S1 1549 t).toNatClampNeg (nI s.1))) 1549 t).toNatClampNeg (lN s.2.1))) 1549 t) ∧ (isO (rJ (rJ (rI S1 a_1 (upd (eI S1 a_1) (mI S1 1549 t).toNatClampNeg (nI s.1))) a_2 (vp_updL (eJ (rI S1 a_1 (upd (eI S1 a_1) (mI S1 1549 t).toNatClampNeg (nI s.1))) a_2) (mI (rI S1 a_1 (upd (eI S1 a_1) (mI S1 1549 t).toNatClampNeg (nI s.1))) 1549 t).toNatClampNeg (lN s.2.1))) a_3 (vp_updL (eJ (rJ (rI S1 a_1 (upd (eI S1 a_1) (mI S1 1549 t).toNatClampNeg (nI s.1))) a_2 (vp_updL (eJ (rI S1 a_1 (upd (eI S1 a_1) (mI S1 1549 t).toNatClampNeg (nI s.1))) a_2) (mI (rI S1 a_1 (upd (eI S1 a_1) (mI S1 1549 t).toNatClampNeg (nI s.1))) 1549 t).toNatClampNeg (lN s.2.1))) a_3) (mI (rJ (rI S1 a_1 (upd (eI S1 a_1) (mI S1 1549 t).toNatClampNeg (nI s.1))) a_2 (vp_updL (eJ (rI S1 a_1 (upd (eI S1 a_1) (mI S1 1549 t).toNatClampNeg (nI s.1))) a_2) (mI (rI S1 a_1 (upd (eI S1 a_1) (mI S1 1549 t).toNatClampNeg (nI s.1))) 1549 t).toNatClampNeg (lN s.2.1))) 1549 t).toNatClampNeg (lN s.2.2))) 15 t ∧ (True ∧ (isO (rJ (rJ (rI S1 a_1 (upd (eI S1 a_1) (mI S1 1549 t).toNatClampNeg (nI s.1))) a_2 (vp_updL (eJ (rI S1 a_1 (upd (eI S1 a_1) (mI S1 1549 t).toNatClampNeg (nI s.1))) a_2) (mI (rI S1 a_1 (upd (eI S1 a_1) (mI S1 1549 t).toNatClampNeg (nI s.1))) 1549 t).toNatClampNeg (lN s.2.1))) a_3 (vp_updL (eJ (rJ (rI S1 a_1 (upd (eI S1 a_1) (mI S1 1549 t).toNatClampNeg (nI s.1))) a_2 (vp_updL (eJ (rI S1 a_1 (upd (eI S1 a_1) (mI S1 1549 t).toNatClampNeg (nI s.1))) a_2) (mI (rI S1 a_1 (upd (eI S1 a_1) (mI S1 1549 t).toNatClampNeg (nI s.1))) 1549 t).toNatClampNeg (lN s.2.1))) a_3) (mI (rJ (rI S1 a_1 (upd (eI S1 a_1) (mI S1 1549 t).toNatClampNeg (nI s.1))) a_2 (vp_updL (eJ (rI S1 a_1 (upd (eI S1 a_1) (mI S1 1549 t).toNatClampNeg (nI s.1))) a_2) (mI (rI S1 a_1 (upd (eI S1 a_1) (mI S1 1549 t).toNatClampNeg (nI s.1))) 1549 t).toNatClampNeg (lN s.2.1))) 1549 t).toNatClampNeg (lN s.2.2))) 15 t ∧ (∃ k1, k1 < 10 * f + 15 ∧ I_rq1 t r F z Y R kz B L cA cE S k1 [(0, .inr (.inr (some t))), (1, .inr (.inl (lN T)))] [] (sI (rJ (rJ (rI S1 a_1 (upd (eI S1 a_1) (mI S1 1549 t).toNatClampNeg (nI s.1))) a_2 (vp_updL (eJ (rI S1 a_1 (upd (eI S1 a_1) (mI S1 1549 t).toNatClampNeg (nI s.1))) a_2) (mI (rI S1 a_1 (upd (eI S1 a_1) (mI S1 1549 t).toNatClampNeg (nI s.1))) 1549 t).toNatClampNeg (lN s.2.1))) a_3 (vp_updL (eJ (rJ (rI S1 a_1 (upd (eI S1 a_1) (mI S1 1549 t).toNatClampNeg (nI s.1))) a_2 (vp_updL (eJ (rI S1 a_1 (upd (eI S1 a_1) (mI S1 1549 t).toNatClampNeg (nI s.1))) a_2) (mI (rI S1 a_1 (upd (eI S1 a_1) (mI S1 1549 t).toNatClampNeg (nI s.1))) 1549 t).toNatClampNeg (lN s.2.1))) a_3) (mI (rJ (rI S1 a_1 (upd (eI S1 a_1) (mI S1 1549 t).toNatClampNeg (nI s.1))) a_2 (vp_updL (eJ (rI S1 a_1 (upd (eI S1 a_1) (mI S1 1549 t).toNatClampNeg (nI s.1))) a_2) (mI (rI S1 a_1 (upd (eI S1 a_1) (mI S1 1549 t).toNatClampNeg (nI s.1))) 1549 t).toNatClampNeg (lN s.2.1))) 1549 t).toNatClampNeg (lN s.2.2))) 1549 t ((mI (rJ (rJ (rI S1 a_1 (upd (eI S1 a_1) (mI S1 1549 t).toNatClampNeg (nI s.1))) a_2 (vp_updL (eJ (rI S1 a_1 (upd (eI S1 a_1) (mI S1 1549 t).toNatClampNeg (nI s.1))) a_2) (mI (rI S1 a_1 (upd (eI S1 a_1) (mI S1 1549 t).toNatClampNeg (nI s.1))) 1549 t).toNatClampNeg (lN s.2.1))) a_3 (vp_updL (eJ (rJ (rI S1 a_1 (upd (eI S1 a_1) (mI S1 1549 t).toNatClampNeg (nI s.1))) a_2 (vp_updL (eJ (rI S1 a_1 (upd (eI S1 a_1) (mI S1 1549 t).toNatClampNeg (nI s.1))) a_2) (mI (rI S1 a_1 (upd (eI S1 a_1) (mI S1 1549 t).toNatClampNeg (nI s.1))) 1549 t).toNatClampNeg (lN s.2.1))) a_3) (mI (rJ (rI S1 a_1 (upd (eI S1 a_1) (mI S1 1549 t).toNatClampNeg (nI s.1))) a_2 (vp_updL (eJ (rI S1 a_1 (upd (eI S1 a_1) (mI S1 1549 t).toNatClampNeg (nI s.1))) a_2) (mI (rI S1 a_1 (upd (eI S1 a_1) (mI S1 1549 t).toNatClampNeg (nI s.1))) 1549 t).toNatClampNeg (lN s.2.1))) 1549 t).toNatClampNeg (lN s.2.2))) 1549 t) + (1 : Int32))) (gwC (kz 40) (A.length + 1)) (gwZ (kz 40) (A.length + 1)))))))))))))))
      obtain ⟨hM, ⟨r1, r2, hC, hc⟩, hL0, hk40⟩ := hp
      obtain ⟨q1, q2, q3⟩ := hP
      have ek : gz kz (A.length + 1) 40 = gw (kz 40) (A.length + 1) := upF_s
      have hkb := (h1 11).2.2.2.1
      rw [ek] at hkb
      have cl : (nI A.length).toNatClampNeg = A.length := nI_clamp (by omega)
      have r40 := h1 1 40 (by decide)
      have r44 := h1 1 44 (by decide)
      have r45 := h1 1 45 (by decide)
      have n40 : mN S1 (z1 40) = gw (kz 40) (A.length + 1) := r40.2.2.2.trans ek
      have n44 : mN S1 (z1 44) = gw (kz 40) (A.length + 1) := r44.2.2.2.trans ek
      have n45 : mN S1 (z1 45) = gw (kz 40) (A.length + 1) := r45.2.2.2.trans ek
      have ot := (h1 0).1
      have z45 : z1 44 ≠ z1 45 := rK.nz h1 (by decide) (by decide) (by decide)
      have key : ∀ S9, S9 = sI (rJ (rJ (rI S1 (z1 40) (upd (eI S1 (z1 40)) A.length (nI s.1))) (z1 44) (vp_updL (eJ S1 (z1 44)) A.length (lN s.2.1))) (z1 45) (vp_updL (eJ (rJ S1 (z1 44) (vp_updL (eJ S1 (z1 44)) A.length (lN s.2.1))) (z1 45)) A.length (lN s.2.2))) 1549 t (nI (A.length + 1)) → rsB S S9 F F1 t r z z1 Y R kz B L p (cE 1) (A ++ [s]) := fun S9 e => by
        subst e
        have k9 : rK [40, 44, 45] [1549] S1 (sI (rJ (rJ (rI S1 (z1 40) (upd (eI S1 (z1 40)) A.length (nI s.1))) (z1 44) (vp_updL (eJ S1 (z1 44)) A.length (lN s.2.1))) (z1 45) (vp_updL (eJ (rJ S1 (z1 44) (vp_updL (eJ S1 (z1 44)) A.length (lN s.2.1))) (z1 45)) A.length (lN s.2.2))) 1549 t (nI (A.length + 1))) t z1 := ⟨Keep.sI (P := fun c => c = t ∨ ∃ k, k ∈ [40, 44, 45] ∧ c = z1 k) (Keep.rJ (P := fun c => c = t ∨ ∃ k, k ∈ [40, 44, 45] ∧ c = z1 k) (Keep.rJ (P := fun c => c = t ∨ ∃ k, k ∈ [40, 44, 45] ∧ c = z1 k) (Keep.rI (P := fun c => c = t ∨ ∃ k, k ∈ [40, 44, 45] ∧ c = z1 k) Keep.rf (Or.inr ⟨40, by decide, rfl⟩)) (Or.inr ⟨44, by decide, rfl⟩)) (Or.inr ⟨45, by decide, rfl⟩)) (Or.inl rfl), fun f hf => by rw [mI_sI, if_neg (fun e => hf (List.mem_singleton.2 e.1))]; rfl, fun _ => rfl⟩
        have la : (A ++ [s]).length = A.length + 1 := by rw [List.length_append]; rfl
        obtain ⟨x1, x2, x3, x4, x5, x6⟩ := hR
        refine ⟨by rw [la]; exact k9.md h1 (by decide) (by decide), hG.tr (k9.rg.mono (by decide) (by decide)), ⟨by rw [la, mI_sI, if_pos ⟨rfl, rfl⟩], by rw [la, ek]; exact hlt, fun j hj => ?_⟩, k9.ls h1 (by decide) (by decide) (by decide) hL, (k9.2.2 _).trans x1, k9.by h1 x2 (fun k hk => ?_), (k9.2.1 _ (by decide)).trans x3, (k9.2.1 _ (by decide)).trans x4, x5, x6⟩
        · rw [la] at hj
          show eI (rI S1 (z1 40) _) (z1 40) j = _ ∧ eJ (rJ (rJ S1 (z1 44) _) (z1 45) _) (z1 44) j = _ ∧ eJ (rJ (rJ S1 (z1 44) _) (z1 45) _) (z1 45) j = _
          rw [eI_rI, if_pos rfl, eJ_rJ, if_neg z45, eJ_rJ, if_pos rfl, eJ_rJ, if_pos rfl, eJ_rJ, if_neg z45.symm, upd, vp_updL, vp_updL]
          by_cases c : j = A.length
          · rw [if_pos c, if_pos c, if_pos c, c, List.getD_eq_getElem?_getD, List.getElem?_append_right (Nat.le_refl _), Nat.sub_self]
            exact ⟨rfl, rfl, rfl⟩
          · rw [if_neg c, if_neg c, if_neg c, List.getD_eq_getElem?_getD, List.getElem?_append_left (by omega), ← List.getD_eq_getElem?_getD]
            exact q3 j (by omega)
        · have : ∀ k, k ∈ [40, 44, 45] → k ∈ mdL ∧ mdK k ≠ 16 := by decide
          exact x2.nz h1 (this k hk).1 (this k hk).2
      have inx : ∀ {b}, mN S1 b = gw (kz 40) (A.length + 1) → inR S1 b (mI S1 1549 t) := fun {b} e => by rw [q1]; exact inRn e hlt (by omega)
      refine ⟨ot, ot, pa_i r40.1 ⟨r40.2.2.1, inx n40, ot, ot, pa_i r44.1 ⟨r44.2.2.1, inx n44, ot, ot, pa_i r45.1 ⟨r45.2.2.1, inx n45, ot, trivial, ot, 10 * f + 9, by omega, f, T, p, A ++ [s], F1, z1, rfl, hF, key _ ?_, rfl, rfl, by rw [List.length_append]; rfl, by rw [List.length_append]; rfl⟩⟩⟩⟩
      show sI (rJ (rJ (rI S1 (z1 40) (upd (eI S1 (z1 40)) (mI S1 1549 t).toNatClampNeg (nI s.1))) (z1 44) (vp_updL (eJ S1 (z1 44)) (mI S1 1549 t).toNatClampNeg (lN s.2.1))) (z1 45) (vp_updL (eJ (rJ S1 (z1 44) (vp_updL (eJ S1 (z1 44)) (mI S1 1549 t).toNatClampNeg (lN s.2.1))) (z1 45)) (mI S1 1549 t).toNatClampNeg (lN s.2.2))) 1549 t (mI S1 1549 t + 1) = _
      rw [q1, cl, nI_1]
theorem u_rrs (l : Launch) : Us l yX14_readSpans cX14_readSpans 8 (some .boolean) 3 75 15 T_rrs := by
  intro Rc Rs av S cs sl K Kx h
  unfold T_rrs at h
  split at h
  · rename_i t_o
    obtain ⟨t, rfl, h_1⟩ := pa_of h
    obtain ⟨F, z, Y, R, kz, r, B, L, cA, cE, hp, hc, hs, hk⟩ := h_1
    refine ⟨(sp_rrs t F z Y R kz r B L cA cE), c_rrs l t F z Y R kz r B L cA cE, fun _ _ h9 => ⟨_, _, h9.1, (h9.2.1 0).1⟩, ⟨rfl, hp⟩, hc, hs, fun v9 S' h8 => by
      obtain ⟨h7, h8⟩ := h8
      cases h7
      exact hk _ h8, fun _ _ q => q.elim⟩
  · exact h.elim
