/-! ===== The reference's graph: insert ===== -/
def inA2 (G : Gr) (T : Tr) (e ix : Nat) (A B : List Nat) : Prop := T.od = A ++ B ∧ (A = [] ∨ snW G (G.ev e).pa (A.getLastD 0) = true) ∧ (A.filter (snW G (G.ev e).pa)).length = ix
def inM (S S1 : MM) (F : Nat → Nat × Nat) (i : Nat) (y : Nat → Nat) (G : Gr) (T : Tr) (e ix c : Nat) : Prop := RG S1 F i y G T ∧ Keep (gO F i) S S1 ∧ eI S1 (y 9) e = 1 ∧ eI S1 (y 10) e = nI ix ∧ eI S1 (y 11) e = nI c ∧ mI S1 1326 (y 0) = mI S 1326 (y 0)
def inH (G : Gr) (T : Tr) (e lf t : Nat) (q : Option Nat) : Prop := ∃ z ∈ sibW T.sb t q, ivW G (G.ev e).pa z = true
def I_ris1 (g e ix c : Nat) (G : Gr) (T : Tr) (S : MM) (k : Nat) : KT := fun lo st S1 cs sl => ∃ A B, k = 40000 ∧ inA2 G T e ix A B ∧ lo = [(0, .inr (.inr (some g))), (1, .inl (nI e)), (2, .inl (nI ix)), (3, .inl (nI c)), (4, .inl (nI (16 * e))), (5, .inl (ndI A.length)), (6, .inl (ndI (A.getLastD 0)))] ∧ st = [] ∧ S = S1 ∧ cs = 0 ∧ sl = 0
def I_ris2 (g e ix c : Nat) (F : Nat → Nat × Nat) (i : Nat) (y : Nat → Nat) (G : Gr) (T : Tr) (S : MM) (k : Nat) : KT := fun lo st S1 cs sl => ∃ A B t q D hz, k = 20001 + t ∧ inA2 G T e ix A B ∧ inM S S1 F i y G T e ix c ∧ RpT T t q D ∧ (inH G T e (A.getLastD 0) T.od.length (T.fr (A.getLastD 0)) ↔ hz = true ∨ inH G T e (A.getLastD 0) t q) ∧ lo = [(0, .inr (.inr (some g))), (1, .inl (nI e)), (4, .inl (nI (16 * e))), (5, .inl (ndI A.length)), (6, .inl (ndI (A.getLastD 0))), (7, .inl (bI hz)), (8, .inl (pnI q))] ∧ st = [] ∧ cs = 0 ∧ sl = 0
def I_ris3 (g e ix c : Nat) (F : Nat → Nat × Nat) (i : Nat) (y : Nat → Nat) (G : Gr) (T : Tr) (S : MM) (k : Nat) : KT := fun lo st S1 cs sl => ∃ A B hz, k = 20000 ∧ inA2 G T e ix A B ∧ inM S S1 F i y G T e ix c ∧ (inH G T e (A.getLastD 0) T.od.length (T.fr (A.getLastD 0)) ↔ hz = true) ∧ lo = [(0, .inr (.inr (some g))), (1, .inl (nI e)), (4, .inl (nI (16 * e))), (5, .inl (ndI A.length)), (6, .inl (ndI (A.getLastD 0))), (7, .inl (bI hz))] ∧ st = [] ∧ cs = 0 ∧ sl = 0
def I_ris4 (g e ix c : Nat) (F : Nat → Nat × Nat) (i : Nat) (y : Nat → Nat) (G : Gr) (T : Tr) (S : MM) (k : Nat) : KT := fun lo st S1 cs sl => ∃ A B j p, k = 8400 + (p - j) ∧ inA2 G T e ix A B ∧ inM S S1 F i y G T e ix c ∧ inH G T e (A.getLastD 0) T.od.length (T.fr (A.getLastD 0)) ∧ eI S1 (y 16) e = 0 ∧ A.length ≤ j ∧ j ≤ p ∧ p < T.od.length ∧ ivW G (G.ev e).pa (T.od.getD p 0) = true ∧ (∀ n, A.length ≤ n → n < j → ivW G (G.ev e).pa (T.od.getD n 0) = false) ∧ lo = [(0, .inr (.inr (some g))), (1, .inl (nI e)), (4, .inl (nI (16 * e))), (8, .inl (nI j))] ∧ st = [] ∧ cs = 0 ∧ sl = 0
def I_ris5 (g e ix c : Nat) (F : Nat → Nat × Nat) (i : Nat) (y : Nat → Nat) (G : Gr) (T : Tr) (S : MM) (k : Nat) : KT := fun lo st S1 cs sl => ∃ A B rg, k = 8300 ∧ inA2 G T e ix A B ∧ inM S S1 F i y G T e ix c ∧ T.rgt (ivW G (G.ev e).pa) (A.getLastD 0) B rg ∧ hgE S1 y e (A.getLastD 0) rg ∧ lo = [(0, .inr (.inr (some g))), (1, .inl (nI e))] ∧ st = [] ∧ cs = 0 ∧ sl = 0
def inF (G : Gr) (T : Tr) (e ix c lf : Nat) (rg : Option Nat) (fi : Nat → Int32) (fe : Nat → Nat → Int32) (fz : Nat → Nat) : Prop := (∀ j, RGm fi fe fz G (hgT G T e lf rg) j) ∧ fe 9 e = 1 ∧ fe 10 e = nI ix ∧ fe 11 e = nI c ∧ fe 13 e = pnI ((hgT G T e lf rg).sb (e + 1))
def I_ris6 (g e ix c : Nat) (F : Nat → Nat × Nat) (i : Nat) (y : Nat → Nat) (G : Gr) (T : Tr) (S : MM) (k : Nat) : KT := fun lo st S1 cs sl => ∃ A B rg U V fi fe fz f j, k = j - U.length ∧ inA2 G T e ix A B ∧ T.rgt (ivW G (G.ev e).pa) (A.getLastD 0) B rg ∧ T.od = U ++ V ∧ (T.put (lessK G e) (A.getLastD 0) rg (e + 1) (U ++ (e + 1) :: V)).ok ∧ inF G T e ix c (A.getLastD 0) rg fi fe fz ∧ RS S1 F i y fi (updF fe 21 f) fz ∧ (Keep (gO F i) S S1 ∧ fi 26 = mI S 1326 (y 0)) ∧ U.length ≤ j ∧ j ≤ T.od.length ∧ (∀ n, n ≤ j → f n = fe 21 n) ∧ (∀ n, j < n → n ≤ T.od.length → f n = fe 21 (n - 1)) ∧ lo = [(0, .inr (.inr (some g))), (1, .inl (nI e)), (8, .inl (nI U.length)), (9, .inl (nI j))] ∧ st = [] ∧ cs = 0 ∧ sl = 0
def inQ2 (S S' : MM) (F : Nat → Nat × Nat) (i : Nat) (y : Nat → Nat) (G : Gr) (T : Tr) (e ix c : Nat) : Prop := ∃ T' U V, T.ins T' (ivW G (G.ev e).pa) (snW G (G.ev e).pa) (lessK G e) (e + 1) ix ∧ RG S' F i y (G.setI e ix c) T' ∧ Keep (gO F i) S S' ∧ T.od = U ++ V ∧ T'.od = U ++ (e + 1) :: V ∧ mI S' 1326 (y 0) = mI S 1326 (y 0)
theorem nI_dcr (n : Nat) : nI (n + 1) + -1 = nI n ∧ nI (n + 1) - 1 = nI n := by
  refine ⟨?_, pk_sub (a := n + 1) (b := 1) (Nat.succ_le_succ (Nat.zero_le _))⟩
  rw [← nI_1, Int32.add_assoc, show (1 : Int32) + -1 = 0 from by decide, Int32.add_zero]
theorem ndI_1 (n : Nat) : ndI n + 1 = nI n := by
  cases n with
  | zero => rfl
  | succ n => show nI n + 1 = _; rw [nI_1]
theorem tk_last {L : List Nat} {j : Nat} (hj : j < L.length) : (L.take (j + 1)).getLastD 0 = L.getD j 0 ∧ (L.take (j + 1)).length = j + 1 := by
  refine ⟨?_, by rw [List.length_take]; omega⟩
  rw [List.take_succ, List.getD_eq_getElem?_getD, List.getElem?_eq_getElem hj]
  show (L.take j ++ [L[j]]).getLastD 0 = _
  rw [List.getLastD_concat]; rfl
theorem getD_app_r (A B : List Nat) (n : Nat) : (A ++ B).getD (A.length + n) 0 = B.getD n 0 := by
  rw [List.getD_eq_getElem?_getD, List.getElem?_append_right (Nat.le_add_right _ _), Nat.add_sub_cancel_left, List.getD_eq_getElem?_getD]
theorem getD_app_l {A B : List Nat} {n : Nat} (h : n < A.length) : (A ++ B).getD n 0 = A.getD n 0 := by
  rw [List.getD_eq_getElem?_getD, List.getElem?_append_left h, List.getD_eq_getElem?_getD]
theorem find_at {p : Nat → Bool} : ∀ {B : List Nat} {n : Nat}, n < B.length → p (B.getD n 0) = true → (∀ m, m < n → p (B.getD m 0) = false) → B.find? p = some (B.getD n 0)
  | [], n, h, _, _ => absurd h (Nat.not_lt_zero n)
  | b :: B, 0, _, h2, _ => by
    have h2 : p b = true := h2
    show (match p b with | true => some b | false => B.find? p) = some b
    rw [h2]
  | b :: B, n + 1, h1, h2, h3 => by
    have h4 : p b = false := h3 0 (Nat.succ_pos n)
    show (match p b with | true => some b | false => B.find? p) = some (B.getD n 0)
    rw [h4]
    exact find_at (Nat.lt_of_succ_lt_succ h1) h2 (fun m hm => h3 (m + 1) (Nat.succ_lt_succ hm))
theorem RG.stR {S : MM} {F : Nat → Nat × Nat} {i : Nat} {y : Nat → Nat} {G : Gr} {T : Tr} (h : RG S F i y G T) {e : Nat} (he : e < G.n) : StR S (y 8) (16 * e) (G.ev e).pa := by
  have hnm := h.nm
  exact ⟨h.r8.2.1, by rw [h.r8.2.2]; omega, by rw [h.r8.2.2]; exact Nat.le_refl _, fun s hs => ⟨(h 5 e he).2.2.1 s hs, pa_le h.ok he s⟩⟩
theorem RG.odl1 {S : MM} {F : Nat → Nat × Nat} {i : Nat} {y : Nat → Nat} {G : Gr} {T : Tr} (h : RG S F i y G T) {e : Nat} (he : e + 1 = G.n) (hne : e + 1 ∉ T.od) : T.od.length ≤ e := by
  have h2 : (T.od.map (· - 1)).Nodup := by
    rw [List.nodup_iff_pairwise_ne, List.pairwise_map]
    refine (List.nodup_iff_pairwise_ne.1 h.tnd).imp_of_mem (fun {a b} ha hb hab e => hab ?_)
    obtain ⟨k, rfl, _⟩ := h.ond ha
    obtain ⟨k', rfl, _⟩ := h.ond hb
    simp only [Nat.add_sub_cancel] at e
    rw [e]
  have h3 := List.Nodup.length_le_of_subset h2 (l₂ := List.range e) (fun x hx => by
    obtain ⟨a, ha, rfl⟩ := List.mem_map.1 hx
    obtain ⟨k, rfl, hk, _⟩ := h.ond ha
    have : k ≠ e := fun z => hne (z ▸ ha)
    exact List.mem_range.2 (show k < e by omega))
  rw [List.length_map, List.length_range] at h3
  exact h3
theorem inA2.lf {G : Gr} {T : Tr} {e ix : Nat} {A B : List Nat} (h : inA2 G T e ix A B) : A.getLastD 0 = 0 ∨ A.getLastD 0 ∈ T.od := by
  rcases last_in (A := A) (rt := 0) with w | w
  · exact Or.inl w.1
  · exact Or.inr (by rw [h.1]; exact List.mem_append_left _ w)
theorem inA2.hn {G : Gr} {T : Tr} {e ix : Nat} {A B : List Nat} (h : inA2 G T e ix A B) : hnP T (A.getLastD 0) none := ⟨h.lf, fun r z => by cases z⟩
/-- a node of the version among the right children stands behind -/
theorem inA2.be {G : Gr} {T : Tr} {e ix : Nat} {A B : List Nat} (h : inA2 G T e ix A B) (hT : T.ok) (hH : inH G T e (A.getLastD 0) T.od.length (T.fr (A.getLastD 0))) : ∃ p, A.length ≤ p ∧ p < T.od.length ∧ ivW G (G.ev e).pa (T.od.getD p 0) = true := by
  obtain ⟨P, F, R, p1, p2, p3, -⟩ := Tr.site (rg := none) hT h.lf (fun r z => by cases z)
  obtain ⟨z, z1, z2⟩ := hH
  have zF : z ∈ F := sib_rp p2 z1
  have e1 : A ++ B = P ++ (F ++ R) := by rw [← h.1, p1]; simp
  obtain ⟨u1, u2⟩ := pre_uniq e1 (h.1 ▸ hT.2.1) (h.1 ▸ hT.2.2.1) (p3 rfl).symm
  have zB : z ∈ B := by rw [u2]; simp [zF]
  obtain ⟨n, hn, hz⟩ := List.getElem_of_mem zB
  have hBd : B.getD n 0 = z := by rw [List.getD_eq_getElem?_getD, List.getElem?_eq_getElem hn, hz]; rfl
  refine ⟨A.length + n, Nat.le_add_right _ _, by rw [h.1, List.length_append]; omega, ?_⟩
  rw [h.1, getD_app_r, hBd]; exact z2
def T_ris : TR := fun Rc Rs av S cs sl K _Kx => match av with
  | [.inr (.inr g_o), .inl e_v, .inl ix_v, .inl c_v] => pa g_o fun g => (∃ (e : Nat), e_v = nI e ∧ (∃ (ix : Nat), ix_v = nI ix ∧ (∃ (c : Nat), c_v = nI c ∧ (∃ (F : Nat → Nat × Nat) (i : Nat) (y : Nat → Nat) (G : Gr) (T : Tr), (g = y 0 ∧ RG S F i y G T ∧ e + 1 = G.n ∧ (G.ev e).ch = none ∧ (G.ev e).tg = 8192 ∧ e + 1 ∉ T.od ∧ T.ok ∧ ix ≤ (T.od.filter (snW G (G.ev e).pa)).length ∧ c < 2000000) ∧ cs ≤ Rc ∧ sl ≤ Rs ∧ (∀ (S' : MM), (inQ2 S S' F i y G T e ix c) → K none S' cs sl)))))
  | _ => False
def sp_ris (g : Nat) (e : Nat) (ix : Nat) (c : Nat) (F : Nat → Nat × Nat) (i : Nat) (y : Nat → Nat) (G : Gr) (T : Tr) : Sp := (fun av S => av = [.inr (.inr (some g)), .inl (nI e), .inl (nI ix), .inl (nI c)] ∧ (g = y 0 ∧ RG S F i y G T ∧ e + 1 = G.n ∧ (G.ev e).ch = none ∧ (G.ev e).tg = 8192 ∧ e + 1 ∉ T.od ∧ T.ok ∧ ix ≤ (T.od.filter (snW G (G.ev e).pa)).length ∧ c < 2000000), fun _ S => 0, fun _ S => 0, fun _ S rv S' => rv = none ∧ (inQ2 S S' F i y G T e ix c), fun _ _ _ _ => False)
def tX12_insert : CD := [(0, .bipush 16), (2, .iload_n 1), (3, .imul), (4, .istore 4), (6, .iload_n 2), (7, .ifCond .ne 7), (10, .iconst (-1)), (11, .goto 16), (14, .aload_n 0), (15, .aload_n 0), (16, .getfield 30), (19, .iload 4), (21, .iload_n 2), (22, .iconst 1), (23, .isub), (24, .invokevirtual 117), (27, .istore 5), (29, .iload 5), (31, .ifCond .ge 7), (34, .iconst (-1)), (35, .goto 10), (38, .aload_n 0), (39, .getfield 72), (42, .iload 5), (44, .iaload), (45, .istore 6), (47, .aload_n 0), (48, .getfield 38), (51, .iload_n 1), (52, .iload_n 2), (53, .iastore), (54, .aload_n 0), (55, .getfield 34), (58, .iload_n 1), (59, .iconst 1), (60, .bastore), (61, .aload_n 0), (62, .getfield 41), (65, .iload_n 1), (66, .iload_n 3), (67, .iastore), (68, .iconst 0), (69, .istore 7), (71, .iload 6), (73, .ifCond .ge 10), (76, .aload_n 0), (77, .getfield 59), (80, .goto 10), (83, .aload_n 0), (84, .getfield 53), (87, .iload 6), (89, .iaload), (90, .istore 8), (92, .iload 8), (94, .ifCond .lt 32), (97, .iload 7), (99, .aload_n 0), (100, .aload_n 0), (101, .getfield 30), (104, .iload 4), (106, .iload 8), (108, .invokevirtual 94), (111, .ior), (112, .istore 7), (114, .aload_n 0), (115, .getfield 47), (118, .iload 8), (120, .iaload), (121, .istore 8), (123, .goto (-31)), (126, .aload_n 0), (127, .getfield 56), (130, .iload_n 1), (131, .iload 7), (133, .ifCond .ne 7), (136, .iconst 1), (137, .goto 4), (140, .iconst 0), (141, .bastore), (142, .aload_n 0), (143, .getfield 44), (146, .iload_n 1), (147, .iload 6), (149, .iastore), (150, .iload 7), (152, .ifCond .eq 48), (155, .iload 5), (157, .iconst 1), (158, .iadd), (159, .istore 8), (161, .aload_n 0), (162, .aload_n 0), (163, .getfield 30), (166, .iload 4), (168, .aload_n 0), (169, .getfield 72), (172, .iload 8), (174, .iaload), (175, .invokevirtual 94), (178, .ifCond .ne 9), (181, .iinc 8 1), (184, .goto (-23)), (187, .aload_n 0), (188, .getfield 44), (191, .iload_n 1), (192, .aload_n 0), (193, .getfield 72), (196, .iload 8), (198, .iaload), (199, .iastore), (200, .aload_n 0), (201, .iload_n 1), (202, .invokevirtual 121), (205, .aload_n 0), (206, .iload_n 1), (207, .invokevirtual 125), (210, .istore 8), (212, .aload_n 0), (213, .getfield 98), (216, .istore 9), (218, .iload 9), (220, .iload 8), (222, .if_icmp .le 25), (225, .aload_n 0), (226, .getfield 72), (229, .iload 9), (231, .aload_n 0), (232, .getfield 72), (235, .iload 9), (237, .iconst 1), (238, .isub), (239, .iaload), (240, .iastore), (241, .iinc 9 (-1)), (244, .goto (-26)), (247, .aload_n 0), (248, .getfield 72), (251, .iload 8), (253, .iload_n 1), (254, .iastore), (255, .aload_n 0), (256, .dup), (257, .getfield 98), (260, .iconst 1), (261, .iadd), (262, .putfield 98), (265, .return_)]
set_option maxRecDepth 100000 in
theorem kX12_insert : chk cX12_insert tX12_insert = true := by decide +kernel
theorem vX12_insert_117 : ∀ w ∈ ([.methodLink RX12 117 yX12_seenAt, .instanceMethod yX12_seenAt, .selects yX12_seenAt.cls yX12_seenAt yX12_seenAt, .initialized yX12_seenAt.cls, .code yX12_seenAt cX12_seenAt 6 (some .int)] : List Cond), w ∈ lw_good := List.forall_mem_cons.mpr ⟨mgd 2001 (by decide +kernel) (by decide +kernel), List.forall_mem_cons.mpr ⟨mgd 2002 (by decide +kernel) (by decide +kernel), List.forall_mem_cons.mpr ⟨mgd 2003 (by decide +kernel) (by decide +kernel), List.forall_mem_cons.mpr ⟨mgd 138 (by decide +kernel) (by decide +kernel), List.forall_mem_cons.mpr ⟨mgd 2004 (by decide +kernel) (by decide +kernel), fun _ h => absurd h List.not_mem_nil⟩⟩⟩⟩⟩
theorem vX12_insert_94 : ∀ w ∈ ([.methodLink RX12 94 yX12_has, .instanceMethod yX12_has, .selects yX12_has.cls yX12_has yX12_has, .initialized yX12_has.cls, .code yX12_has cX12_has 4 (some .boolean)] : List Cond), w ∈ lw_good := List.forall_mem_cons.mpr ⟨mgd 2009 (by decide +kernel) (by decide +kernel), List.forall_mem_cons.mpr ⟨mgd 2010 (by decide +kernel) (by decide +kernel), List.forall_mem_cons.mpr ⟨mgd 2011 (by decide +kernel) (by decide +kernel), List.forall_mem_cons.mpr ⟨mgd 138 (by decide +kernel) (by decide +kernel), List.forall_mem_cons.mpr ⟨mgd 2012 (by decide +kernel) (by decide +kernel), fun _ h => absurd h List.not_mem_nil⟩⟩⟩⟩⟩
theorem vX12_insert_121 : ∀ w ∈ ([.methodLink RX12 121 yX12_hang, .instanceMethod yX12_hang, .selects yX12_hang.cls yX12_hang yX12_hang, .initialized yX12_hang.cls, .code yX12_hang cX12_hang 6 none] : List Cond), w ∈ lw_good := List.forall_mem_cons.mpr ⟨mgd 2013 (by decide +kernel) (by decide +kernel), List.forall_mem_cons.mpr ⟨mgd 2015 (by decide +kernel) (by decide +kernel), List.forall_mem_cons.mpr ⟨mgd 57 (by decide +kernel) (by decide +kernel), List.forall_mem_cons.mpr ⟨mgd 138 (by decide +kernel) (by decide +kernel), List.forall_mem_cons.mpr ⟨mgd 2016 (by decide +kernel) (by decide +kernel), fun _ h => absurd h List.not_mem_nil⟩⟩⟩⟩⟩
theorem vX12_insert_125 : ∀ w ∈ ([.methodLink RX12 125 yX12_placeOf, .instanceMethod yX12_placeOf, .selects yX12_placeOf.cls yX12_placeOf yX12_placeOf, .initialized yX12_placeOf.cls, .code yX12_placeOf cX12_placeOf 5 (some .int)] : List Cond), w ∈ lw_good := List.forall_mem_cons.mpr ⟨mgd 2025 (by decide +kernel) (by decide +kernel), List.forall_mem_cons.mpr ⟨mgd 2027 (by decide +kernel) (by decide +kernel), List.forall_mem_cons.mpr ⟨mgd 59 (by decide +kernel) (by decide +kernel), List.forall_mem_cons.mpr ⟨mgd 138 (by decide +kernel) (by decide +kernel), List.forall_mem_cons.mpr ⟨mgd 2028 (by decide +kernel) (by decide +kernel), fun _ h => absurd h List.not_mem_nil⟩⟩⟩⟩⟩
set_option maxRecDepth 100000 in
set_option maxHeartbeats 2000000 in
theorem c_ris (l : Launch) : ∀ (g : Nat) (e : Nat) (ix : Nat) (c : Nat) (F : Nat → Nat × Nat) (i : Nat) (y : Nat → Nat) (G : Gr) (T : Tr), Ct l yX12_insert cX12_insert 10 none 3 72 (sp_ris g e ix c F i y G T) := by
  intro g e ix c F i y G T
  refine Ct.of (fX12, nX12, aX12, iX12, lX12, [(117, 0, 4, 1, T_rsa), (94, 0, 4, 1, T_rhas), (121, 0, 2, 0, T_rhg), (125, 0, 2, 1, T_rpo)], qX12, gX12, []) false tX12_insert (fun _ S => look [(47, ([0,1,2,3,4,5,6], I_ris1 g e ix c G T S)), (92, ([0,1,4,5,6,7,8], I_ris2 g e ix c F i y G T S)), (126, ([0,1,4,5,6,7], I_ris3 g e ix c F i y G T S)), (161, ([0,1,4,8], I_ris4 g e ix c F i y G T S)), (200, ([0,1], I_ris5 g e ix c F i y G T S)), (218, ([0,1,8,9], I_ris6 g e ix c F i y G T S))]) (by decide) (by decide) kX12_insert ⟨_, _, rfl⟩ fX12_ok nX12_ok aX12_ok iX12_ok lX12_ok (fun p e R s m args below meth c Q D cy z r A C hR1 hR2 => List.forall_mem_cons.mpr ⟨cOK_use (fun _ _ _ _ _ _ _ _ h => let ⟨sp, h1, h2, h3⟩ := u_rsa l _ _ _ _ _ _ _ _ h; ⟨sp, cOK_V C h1 vX12_insert_117 ⟨by decide, by decide, by decide +kernel⟩ ⟨by rw [hR1]; decide, by rw [hR2]; decide⟩ (k := 13) (T := TX12) (N := 27) rfl (by decide) h2, h3⟩), List.forall_mem_cons.mpr ⟨cOK_use (fun _ _ _ _ _ _ _ _ h => let ⟨sp, h1, h2, h3⟩ := u_rhas l _ _ _ _ _ _ _ _ h; ⟨sp, cOK_V C h1 vX12_insert_94 ⟨by decide, by decide, by decide +kernel⟩ ⟨by rw [hR1]; decide, by rw [hR2]; decide⟩ (k := 13) (T := TX12) (N := 27) rfl (by decide) h2, h3⟩), List.forall_mem_cons.mpr ⟨cOK_use (fun _ _ _ _ _ _ _ _ h => let ⟨sp, h1, h2, h3⟩ := u_rhg l _ _ _ _ _ _ _ _ h; ⟨sp, cOK_V C h1 vX12_insert_121 ⟨by decide, by decide, by decide +kernel⟩ ⟨by rw [hR1]; decide, by rw [hR2]; decide⟩ (k := 13) (T := TX12) (N := 27) rfl (by decide) h2, h3⟩), List.forall_mem_cons.mpr ⟨cOK_use (fun _ _ _ _ _ _ _ _ h => let ⟨sp, h1, h2, h3⟩ := u_rpo l _ _ _ _ _ _ _ _ h; ⟨sp, cOK_V C h1 vX12_insert_125 ⟨by decide, by decide, by decide +kernel⟩ ⟨by rw [hR1]; decide, by rw [hR2]; decide⟩ (k := 13) (T := TX12) (N := 27) rfl (by decide) h2, h3⟩), fun _ h => absurd h List.not_mem_nil⟩⟩⟩⟩) qX12_ok gX12_ok rfl ?_ ?_
  · rintro _ S ⟨rfl, hp⟩
    refine ⟨Nat.le_of_ble_eq_true rfl, 300, ?_⟩
    show ((¬ (nI ix) = 0 → (isO S 13 g ∧ (0 = 0 ∧ ((pa (mR S 1308 g) fun a_1 => (∃ (o_2 : Nat), (16 : Int32) * (nI e) = nI o_2 ∧ (∃ (ix_3 : Nat), (nI ix) - (1 : Int32) = nI ix_3 ∧ (∃ (F_4 : Nat → Nat × Nat) (i_5 : Nat) (y_6 : Nat → Nat) (G_7 : Gr) (T_8 : Tr) (W_9 : Nat → Nat), (g = y_6 0 ∧ RG S F_4 i_5 y_6 G_7 T_8 ∧ StR S a_1 o_2 W_9 ∧ ix_3 < (T_8.od.filter (snW G_7 W_9)).length) ∧ 0 ≤ 0 ∧ 0 ≤ 0 ∧ (∀ (x_11 : Int32), (∃ j, atP T_8.od (snW G_7 W_9) ix_3 j ∧ x_11 = nI j) → ((0 ≤ x_11 → (isO S 13 g ∧ (pa (mR S 1321 g) fun a_12 => ∃ v_13 : Int32, (isO S 17 a_12 ∧ inR S a_12 x_11 ∧ v_13 = eI S a_12 x_11.toNatClampNeg ∨ a_12 = (mQ S).1 ∧ vp_in x_11 16 ∧ v_13 = mRem x_11.toNatClampNeg) ∧ (∃ k1, I_ris1 g e ix c G T S k1 [(0, .inr (.inr (some g))), (1, .inl (nI e)), (2, .inl (nI ix)), (3, .inl (nI c)), (4, .inl ((16 : Int32) * (nI e))), (5, .inl x_11), (6, .inl v_13)] [] S 0 0)))) ∧ (¬ 0 ≤ x_11 → (∃ k1, I_ris1 g e ix c G T S k1 [(0, .inr (.inr (some g))), (1, .inl (nI e)), (2, .inl (nI ix)), (3, .inl (nI c)), (4, .inl ((16 : Int32) * (nI e))), (5, .inl x_11), (6, .inl (-1 : Int32))] [] S 0 0)))))))))))) ∧ ((nI ix) = 0 → ((0 ≤ (-1 : Int32) → (isO S 13 g ∧ (pa (mR S 1321 g) fun a_14 => ∃ v_15 : Int32, (isO S 17 a_14 ∧ inR S a_14 (-1 : Int32) ∧ v_15 = eI S a_14 (-1 : Int32).toNatClampNeg ∨ a_14 = (mQ S).1 ∧ vp_in (-1 : Int32) 16 ∧ v_15 = mRem (-1 : Int32).toNatClampNeg) ∧ (∃ k1, I_ris1 g e ix c G T S k1 [(0, .inr (.inr (some g))), (1, .inl (nI e)), (2, .inl (nI ix)), (3, .inl (nI c)), (4, .inl ((16 : Int32) * (nI e))), (5, .inl (-1 : Int32)), (6, .inl v_15)] [] S 0 0)))) ∧ (¬ 0 ≤ (-1 : Int32) → (∃ k1, I_ris1 g e ix c G T S k1 [(0, .inr (.inr (some g))), (1, .inl (nI e)), (2, .inl (nI ix)), (3, .inl (nI c)), (4, .inl ((16 : Int32) * (nI e))), (5, .inl (-1 : Int32)), (6, .inl (-1 : Int32))] [] S 0 0)))))
    obtain ⟨rfl, h, he, hc, htg, hne, hT, hix, hcc⟩ := hp
    have hnm := h.nm
    have hol := h.odl
    have hlf := tkf_le (snW G (G.ev e).pa) T.od T.od.length
    have hfl : (T.od.filter (snW G (G.ev e).pa)).length ≤ T.od.length := List.length_filter_le _ _
    refine ⟨fun w => ?_, fun w => ?_⟩
    · obtain ⟨ix', rfl⟩ : ∃ t, ix = t + 1 := ⟨ix - 1, by
        have : ix ≠ 0 := fun z => w (by rw [z]; rfl)
        omega⟩
      refine ⟨(h 0).1, rfl, pa_i h.r8.1 ⟨16 * e, nI_mul16, ix', (nI_dcr ix').2, F, i, y, G, T, (G.ev e).pa, ⟨rfl, h, h.stR (by omega), by omega⟩, Nat.le_refl _, Nat.le_refl _, fun x hx => ?_⟩⟩
      obtain ⟨j, hj, rfl⟩ := hx
      obtain ⟨t, ht, -⟩ := h.odn hj.1
      obtain ⟨l1, l2⟩ := tk_last hj.1
      refine ⟨fun _ => ⟨(h 0).1, h.g21 hj.1 ⟨40000, T.od.take (j + 1), T.od.drop (j + 1), rfl, ⟨(List.take_append_drop _ _).symm, Or.inr (by rw [l1]; exact hj.2.1), by rw [tkf hj.1, if_pos hj.2.1, hj.2.2]⟩, ?_, rfl, rfl, rfl, rfl⟩⟩, fun w => absurd (nI_pos' (show j < 2147483648 by have := hj.1; omega)) w⟩
      rw [l1, l2, ht, nI_mul16]; rfl
    · have ix0 : ix = 0 := (nI_eq (b := 0) (by omega) (by decide)).1 w
      subst ix0
      exact ⟨fun w => absurd w (by decide), fun _ => ⟨40000, [], T.od, rfl, ⟨rfl, Or.inl rfl, rfl⟩, by rw [nI_mul16]; rfl, rfl, rfl, rfl, rfl⟩⟩
  · intro av S hpre pc I hI k lo st S1 cs sl h
    obtain ⟨rfl, hp⟩ := hpre
    have hm := look_in hI
    simp only [List.mem_cons, List.not_mem_nil, or_false] at hm
    rcases hm with hm | hm | hm | hm | hm | hm
    · cases hm
      obtain ⟨A, B, rfl, hA, rfl, rfl, rfl, rfl, rfl⟩ := h
      refine ⟨300, ?_⟩
      show (isO S 13 g ∧ (pa (mR S 1310 g) fun a_1 => isO S 17 a_1 ∧ inR S a_1 (nI e) ∧ (isO (rI S a_1 (upd (eI S a_1) (nI e).toNatClampNeg (nI ix))) 13 g ∧ (pa (mR (rI S a_1 (upd (eI S a_1) (nI e).toNatClampNeg (nI ix))) 1309 g) fun a_2 => ((isO (rI S a_1 (upd (eI S a_1) (nI e).toNatClampNeg (nI ix))) 16 a_2 ∧ inR (rI S a_1 (upd (eI S a_1) (nI e).toNatClampNeg (nI ix))) a_2 (nI e) ∧ (isO (rI (rI S a_1 (upd (eI S a_1) (nI e).toNatClampNeg (nI ix))) a_2 (upd (eI (rI S a_1 (upd (eI S a_1) (nI e).toNatClampNeg (nI ix))) a_2) (nI e).toNatClampNeg ((1 : Int32).toInt8.toInt32))) 13 g ∧ (pa (mR (rI (rI S a_1 (upd (eI S a_1) (nI e).toNatClampNeg (nI ix))) a_2 (upd (eI (rI S a_1 (upd (eI S a_1) (nI e).toNatClampNeg (nI ix))) a_2) (nI e).toNatClampNeg ((1 : Int32).toInt8.toInt32))) 1311 g) fun a_3 => isO (rI (rI S a_1 (upd (eI S a_1) (nI e).toNatClampNeg (nI ix))) a_2 (upd (eI (rI S a_1 (upd (eI S a_1) (nI e).toNatClampNeg (nI ix))) a_2) (nI e).toNatClampNeg ((1 : Int32).toInt8.toInt32))) 17 a_3 ∧ inR (rI (rI S a_1 (upd (eI S a_1) (nI e).toNatClampNeg (nI ix))) a_2 (upd (eI (rI S a_1 (upd (eI S a_1) (nI e).toNatClampNeg (nI ix))) a_2) (nI e).toNatClampNeg ((1 : Int32).toInt8.toInt32))) a_3 (nI e) ∧ ((0 ≤ (ndI (A.getLastD 0)) → (isO (rI (rI (rI S a_1 (upd (eI S a_1) (nI e).toNatClampNeg (nI ix))) a_2 (upd (eI (rI S a_1 (upd (eI S a_1) (nI e).toNatClampNeg (nI ix))) a_2) (nI e).toNatClampNeg ((1 : Int32).toInt8.toInt32))) a_3 (upd (eI (rI (rI S a_1 (upd (eI S a_1) (nI e).toNatClampNeg (nI ix))) a_2 (upd (eI (rI S a_1 (upd (eI S a_1) (nI e).toNatClampNeg (nI ix))) a_2) (nI e).toNatClampNeg ((1 : Int32).toInt8.toInt32))) a_3) (nI e).toNatClampNeg (nI c))) 13 g ∧ (pa (mR (rI (rI (rI S a_1 (upd (eI S a_1) (nI e).toNatClampNeg (nI ix))) a_2 (upd (eI (rI S a_1 (upd (eI S a_1) (nI e).toNatClampNeg (nI ix))) a_2) (nI e).toNatClampNeg ((1 : Int32).toInt8.toInt32))) a_3 (upd (eI (rI (rI S a_1 (upd (eI S a_1) (nI e).toNatClampNeg (nI ix))) a_2 (upd (eI (rI S a_1 (upd (eI S a_1) (nI e).toNatClampNeg (nI ix))) a_2) (nI e).toNatClampNeg ((1 : Int32).toInt8.toInt32))) a_3) (nI e).toNatClampNeg (nI c))) 1315 g) fun a_4 => ∃ v_5 : Int32, (isO (rI (rI (rI S a_1 (upd (eI S a_1) (nI e).toNatClampNeg (nI ix))) a_2 (upd (eI (rI S a_1 (upd (eI S a_1) (nI e).toNatClampNeg (nI ix))) a_2) (nI e).toNatClampNeg ((1 : Int32).toInt8.toInt32))) a_3 (upd (eI (rI (rI S a_1 (upd (eI S a_1) (nI e).toNatClampNeg (nI ix))) a_2 (upd (eI (rI S a_1 (upd (eI S a_1) (nI e).toNatClampNeg (nI ix))) a_2) (nI e).toNatClampNeg ((1 : Int32).toInt8.toInt32))) a_3) (nI e).toNatClampNeg (nI c))) 17 a_4 ∧ inR (rI (rI (rI S a_1 (upd (eI S a_1) (nI e).toNatClampNeg (nI ix))) a_2 (upd (eI (rI S a_1 (upd (eI S a_1) (nI e).toNatClampNeg (nI ix))) a_2) (nI e).toNatClampNeg ((1 : Int32).toInt8.toInt32))) a_3 (upd (eI (rI (rI S a_1 (upd (eI S a_1) (nI e).toNatClampNeg (nI ix))) a_2 (upd (eI (rI S a_1 (upd (eI S a_1) (nI e).toNatClampNeg (nI ix))) a_2) (nI e).toNatClampNeg ((1 : Int32).toInt8.toInt32))) a_3) (nI e).toNatClampNeg (nI c))) a_4 (ndI (A.getLastD 0)) ∧ v_5 = eI (rI (rI (rI S a_1 (upd (eI S a_1) (nI e).toNatClampNeg (nI ix))) a_2 (upd (eI (rI S a_1 (upd (eI S a_1) (nI e).toNatClampNeg (nI ix))) a_2) (nI e).toNatClampNeg ((1 : Int32).toInt8.toInt32))) a_3 (upd (eI (rI (rI S a_1 (upd (eI S a_1) (nI e).toNatClampNeg (nI ix))) a_2 (upd (eI (rI S a_1 (upd (eI S a_1) (nI e).toNatClampNeg (nI ix))) a_2) (nI e).toNatClampNeg ((1 : Int32).toInt8.toInt32))) a_3) (nI e).toNatClampNeg (nI c))) a_4 (ndI (A.getLastD 0)).toNatClampNeg ∨ a_4 = (mQ (rI (rI (rI S a_1 (upd (eI S a_1) (nI e).toNatClampNeg (nI ix))) a_2 (upd (eI (rI S a_1 (upd (eI S a_1) (nI e).toNatClampNeg (nI ix))) a_2) (nI e).toNatClampNeg ((1 : Int32).toInt8.toInt32))) a_3 (upd (eI (rI (rI S a_1 (upd (eI S a_1) (nI e).toNatClampNeg (nI ix))) a_2 (upd (eI (rI S a_1 (upd (eI S a_1) (nI e).toNatClampNeg (nI ix))) a_2) (nI e).toNatClampNeg ((1 : Int32).toInt8.toInt32))) a_3) (nI e).toNatClampNeg (nI c)))).1 ∧ vp_in (ndI (A.getLastD 0)) 16 ∧ v_5 = mRem (ndI (A.getLastD 0)).toNatClampNeg) ∧ (∃ k1, k1 < 40000 ∧ I_ris2 g e ix c F i y G T S k1 [(0, .inr (.inr (some g))), (1, .inl (nI e)), (4, .inl (nI (16 * e))), (5, .inl (ndI A.length)), (6, .inl (ndI (A.getLastD 0))), (7, .inl (0 : Int32)), (8, .inl v_5)] [] (rI (rI (rI S a_1 (upd (eI S a_1) (nI e).toNatClampNeg (nI ix))) a_2 (upd (eI (rI S a_1 (upd (eI S a_1) (nI e).toNatClampNeg (nI ix))) a_2) (nI e).toNatClampNeg ((1 : Int32).toInt8.toInt32))) a_3 (upd (eI (rI (rI S a_1 (upd (eI S a_1) (nI e).toNatClampNeg (nI ix))) a_2 (upd (eI (rI S a_1 (upd (eI S a_1) (nI e).toNatClampNeg (nI ix))) a_2) (nI e).toNatClampNeg ((1 : Int32).toInt8.toInt32))) a_3) (nI e).toNatClampNeg (nI c))) 0 0)))) ∧ (¬ 0 ≤ (ndI (A.getLastD 0)) → (isO (rI (rI (rI S a_1 (upd (eI S a_1) (nI e).toNatClampNeg (nI ix))) a_2 (upd (eI (rI S a_1 (upd (eI S a_1) (nI e).toNatClampNeg (nI ix))) a_2) (nI e).toNatClampNeg ((1 : Int32).toInt8.toInt32))) a_3 (upd (eI (rI (rI S a_1 (upd (eI S a_1) (nI e).toNatClampNeg (nI ix))) a_2 (upd (eI (rI S a_1 (upd (eI S a_1) (nI e).toNatClampNeg (nI ix))) a_2) (nI e).toNatClampNeg ((1 : Int32).toInt8.toInt32))) a_3) (nI e).toNatClampNeg (nI c))) 13 g ∧ (∃ k1, k1 < 40000 ∧ I_ris2 g e ix c F i y G T S k1 [(0, .inr (.inr (some g))), (1, .inl (nI e)), (4, .inl (nI (16 * e))), (5, .inl (ndI A.length)), (6, .inl (ndI (A.getLastD 0))), (7, .inl (0 : Int32)), (8, .inl (mI (rI (rI (rI S a_1 (upd (eI S a_1) (nI e).toNatClampNeg (nI ix))) a_2 (upd (eI (rI S a_1 (upd (eI S a_1) (nI e).toNatClampNeg (nI ix))) a_2) (nI e).toNatClampNeg ((1 : Int32).toInt8.toInt32))) a_3 (upd (eI (rI (rI S a_1 (upd (eI S a_1) (nI e).toNatClampNeg (nI ix))) a_2 (upd (eI (rI S a_1 (upd (eI S a_1) (nI e).toNatClampNeg (nI ix))) a_2) (nI e).toNatClampNeg ((1 : Int32).toInt8.toInt32))) a_3) (nI e).toNatClampNeg (nI c))) 1317 g))] [] (rI (rI (rI S a_1 (upd (eI S a_1) (nI e).toNatClampNeg (nI ix))) a_2 (upd (eI (rI S a_1 (upd (eI S a_1) (nI e).toNatClampNeg (nI ix))) a_2) (nI e).toNatClampNeg ((1 : Int32).toInt8.toInt32))) a_3 (upd (eI (rI (rI S a_1 (upd (eI S a_1) (nI e).toNatClampNeg (nI ix))) a_2 (upd (eI (rI S a_1 (upd (eI S a_1) (nI e).toNatClampNeg (nI ix))) a_2) (nI e).toNatClampNeg ((1 : Int32).toInt8.toInt32))) a_3) (nI e).toNatClampNeg (nI c))) 0 0))))))) ∨ (isO (rI S a_1 (upd (eI S a_1) (nI e).toNatClampNeg (nI ix))) 20 a_2 ∧ inR (rI S a_1 (upd (eI S a_1) (nI e).toNatClampNeg (nI ix))) a_2 (nI e) ∧ (isO (rI (rI S a_1 (upd (eI S a_1) (nI e).toNatClampNeg (nI ix))) a_2 (upd (eI (rI S a_1 (upd (eI S a_1) (nI e).toNatClampNeg (nI ix))) a_2) (nI e).toNatClampNeg (vp_nar .boolean (1 : Int32)))) 13 g ∧ (pa (mR (rI (rI S a_1 (upd (eI S a_1) (nI e).toNatClampNeg (nI ix))) a_2 (upd (eI (rI S a_1 (upd (eI S a_1) (nI e).toNatClampNeg (nI ix))) a_2) (nI e).toNatClampNeg (vp_nar .boolean (1 : Int32)))) 1311 g) fun a_6 => isO (rI (rI S a_1 (upd (eI S a_1) (nI e).toNatClampNeg (nI ix))) a_2 (upd (eI (rI S a_1 (upd (eI S a_1) (nI e).toNatClampNeg (nI ix))) a_2) (nI e).toNatClampNeg (vp_nar .boolean (1 : Int32)))) 17 a_6 ∧ inR (rI (rI S a_1 (upd (eI S a_1) (nI e).toNatClampNeg (nI ix))) a_2 (upd (eI (rI S a_1 (upd (eI S a_1) (nI e).toNatClampNeg (nI ix))) a_2) (nI e).toNatClampNeg (vp_nar .boolean (1 : Int32)))) a_6 (nI e) ∧ ((0 ≤ (ndI (A.getLastD 0)) → (isO (rI (rI (rI S a_1 (upd (eI S a_1) (nI e).toNatClampNeg (nI ix))) a_2 (upd (eI (rI S a_1 (upd (eI S a_1) (nI e).toNatClampNeg (nI ix))) a_2) (nI e).toNatClampNeg (vp_nar .boolean (1 : Int32)))) a_6 (upd (eI (rI (rI S a_1 (upd (eI S a_1) (nI e).toNatClampNeg (nI ix))) a_2 (upd (eI (rI S a_1 (upd (eI S a_1) (nI e).toNatClampNeg (nI ix))) a_2) (nI e).toNatClampNeg (vp_nar .boolean (1 : Int32)))) a_6) (nI e).toNatClampNeg (nI c))) 13 g ∧ (pa (mR (rI (rI (rI S a_1 (upd (eI S a_1) (nI e).toNatClampNeg (nI ix))) a_2 (upd (eI (rI S a_1 (upd (eI S a_1) (nI e).toNatClampNeg (nI ix))) a_2) (nI e).toNatClampNeg (vp_nar .boolean (1 : Int32)))) a_6 (upd (eI (rI (rI S a_1 (upd (eI S a_1) (nI e).toNatClampNeg (nI ix))) a_2 (upd (eI (rI S a_1 (upd (eI S a_1) (nI e).toNatClampNeg (nI ix))) a_2) (nI e).toNatClampNeg (vp_nar .boolean (1 : Int32)))) a_6) (nI e).toNatClampNeg (nI c))) 1315 g) fun a_7 => ∃ v_8 : Int32, (isO (rI (rI (rI S a_1 (upd (eI S a_1) (nI e).toNatClampNeg (nI ix))) a_2 (upd (eI (rI S a_1 (upd (eI S a_1) (nI e).toNatClampNeg (nI ix))) a_2) (nI e).toNatClampNeg (vp_nar .boolean (1 : Int32)))) a_6 (upd (eI (rI (rI S a_1 (upd (eI S a_1) (nI e).toNatClampNeg (nI ix))) a_2 (upd (eI (rI S a_1 (upd (eI S a_1) (nI e).toNatClampNeg (nI ix))) a_2) (nI e).toNatClampNeg (vp_nar .boolean (1 : Int32)))) a_6) (nI e).toNatClampNeg (nI c))) 17 a_7 ∧ inR (rI (rI (rI S a_1 (upd (eI S a_1) (nI e).toNatClampNeg (nI ix))) a_2 (upd (eI (rI S a_1 (upd (eI S a_1) (nI e).toNatClampNeg (nI ix))) a_2) (nI e).toNatClampNeg (vp_nar .boolean (1 : Int32)))) a_6 (upd (eI (rI (rI S a_1 (upd (eI S a_1) (nI e).toNatClampNeg (nI ix))) a_2 (upd (eI (rI S a_1 (upd (eI S a_1) (nI e).toNatClampNeg (nI ix))) a_2) (nI e).toNatClampNeg (vp_nar .boolean (1 : Int32)))) a_6) (nI e).toNatClampNeg (nI c))) a_7 (ndI (A.getLastD 0)) ∧ v_8 = eI (rI (rI (rI S a_1 (upd (eI S a_1) (nI e).toNatClampNeg (nI ix))) a_2 (upd (eI (rI S a_1 (upd (eI S a_1) (nI e).toNatClampNeg (nI ix))) a_2) (nI e).toNatClampNeg (vp_nar .boolean (1 : Int32)))) a_6 (upd (eI (rI (rI S a_1 (upd (eI S a_1) (nI e).toNatClampNeg (nI ix))) a_2 (upd (eI (rI S a_1 (upd (eI S a_1) (nI e).toNatClampNeg (nI ix))) a_2) (nI e).toNatClampNeg (vp_nar .boolean (1 : Int32)))) a_6) (nI e).toNatClampNeg (nI c))) a_7 (ndI (A.getLastD 0)).toNatClampNeg ∨ a_7 = (mQ (rI (rI (rI S a_1 (upd (eI S a_1) (nI e).toNatClampNeg (nI ix))) a_2 (upd (eI (rI S a_1 (upd (eI S a_1) (nI e).toNatClampNeg (nI ix))) a_2) (nI e).toNatClampNeg (vp_nar .boolean (1 : Int32)))) a_6 (upd (eI (rI (rI S a_1 (upd (eI S a_1) (nI e).toNatClampNeg (nI ix))) a_2 (upd (eI (rI S a_1 (upd (eI S a_1) (nI e).toNatClampNeg (nI ix))) a_2) (nI e).toNatClampNeg (vp_nar .boolean (1 : Int32)))) a_6) (nI e).toNatClampNeg (nI c)))).1 ∧ vp_in (ndI (A.getLastD 0)) 16 ∧ v_8 = mRem (ndI (A.getLastD 0)).toNatClampNeg) ∧ (∃ k1, k1 < 40000 ∧ I_ris2 g e ix c F i y G T S k1 [(0, .inr (.inr (some g))), (1, .inl (nI e)), (4, .inl (nI (16 * e))), (5, .inl (ndI A.length)), (6, .inl (ndI (A.getLastD 0))), (7, .inl (0 : Int32)), (8, .inl v_8)] [] (rI (rI (rI S a_1 (upd (eI S a_1) (nI e).toNatClampNeg (nI ix))) a_2 (upd (eI (rI S a_1 (upd (eI S a_1) (nI e).toNatClampNeg (nI ix))) a_2) (nI e).toNatClampNeg (vp_nar .boolean (1 : Int32)))) a_6 (upd (eI (rI (rI S a_1 (upd (eI S a_1) (nI e).toNatClampNeg (nI ix))) a_2 (upd (eI (rI S a_1 (upd (eI S a_1) (nI e).toNatClampNeg (nI ix))) a_2) (nI e).toNatClampNeg (vp_nar .boolean (1 : Int32)))) a_6) (nI e).toNatClampNeg (nI c))) 0 0)))) ∧ (¬ 0 ≤ (ndI (A.getLastD 0)) → (isO (rI (rI (rI S a_1 (upd (eI S a_1) (nI e).toNatClampNeg (nI ix))) a_2 (upd (eI (rI S a_1 (upd (eI S a_1) (nI e).toNatClampNeg (nI ix))) a_2) (nI e).toNatClampNeg (vp_nar .boolean (1 : Int32)))) a_6 (upd (eI (rI (rI S a_1 (upd (eI S a_1) (nI e).toNatClampNeg (nI ix))) a_2 (upd (eI (rI S a_1 (upd (eI S a_1) (nI e).toNatClampNeg (nI ix))) a_2) (nI e).toNatClampNeg (vp_nar .boolean (1 : Int32)))) a_6) (nI e).toNatClampNeg (nI c))) 13 g ∧ (∃ k1, k1 < 40000 ∧ I_ris2 g e ix c F i y G T S k1 [(0, .inr (.inr (some g))), (1, .inl (nI e)), (4, .inl (nI (16 * e))), (5, .inl (ndI A.length)), (6, .inl (ndI (A.getLastD 0))), (7, .inl (0 : Int32)), (8, .inl (mI (rI (rI (rI S a_1 (upd (eI S a_1) (nI e).toNatClampNeg (nI ix))) a_2 (upd (eI (rI S a_1 (upd (eI S a_1) (nI e).toNatClampNeg (nI ix))) a_2) (nI e).toNatClampNeg (vp_nar .boolean (1 : Int32)))) a_6 (upd (eI (rI (rI S a_1 (upd (eI S a_1) (nI e).toNatClampNeg (nI ix))) a_2 (upd (eI (rI S a_1 (upd (eI S a_1) (nI e).toNatClampNeg (nI ix))) a_2) (nI e).toNatClampNeg (vp_nar .boolean (1 : Int32)))) a_6) (nI e).toNatClampNeg (nI c))) 1317 g))] [] (rI (rI (rI S a_1 (upd (eI S a_1) (nI e).toNatClampNeg (nI ix))) a_2 (upd (eI (rI S a_1 (upd (eI S a_1) (nI e).toNatClampNeg (nI ix))) a_2) (nI e).toNatClampNeg (vp_nar .boolean (1 : Int32)))) a_6 (upd (eI (rI (rI S a_1 (upd (eI S a_1) (nI e).toNatClampNeg (nI ix))) a_2 (upd (eI (rI S a_1 (upd (eI S a_1) (nI e).toNatClampNeg (nI ix))) a_2) (nI e).toNatClampNeg (vp_nar .boolean (1 : Int32)))) a_6) (nI e).toNatClampNeg (nI c))) 0 0))))))))))))
      obtain ⟨rfl, h, he, hc, htg, hne, hT, hix, hcc⟩ := hp
      have hnm := h.nm
      have hol := h.odl
      have ce : (nI e).toNatClampNeg = e := nI_clamp (by omega)
      have w9 : rwK 9 := Or.inl (by decide)
      have w10 : rwK 10 := Or.inl (by decide)
      have w11 : rwK 11 := Or.inl (by decide)
      have h0 := h.rs
      have h1 := h0.wr w10 ce (nI ix)
      have h2 := h1.wr w9 ce (vp_nar .boolean 1)
      have h3 := h2.wr w11 ce (nI c)
      obtain ⟨D, hD⟩ := hA.hn.rp hT
      have hM : inM S _ F i y G T e ix c := ⟨h3.rg (RGm.off h.rm hc htg (fun k a b c d f => by unfold updF; rw [if_neg c, if_neg a, if_neg b]) (fun j hj => if_neg hj) (fun j hj => if_neg hj) (fun j hj => if_neg hj)), Keep.rI (P := gO F i) (Keep.rI (P := gO F i) (Keep.rI (P := gO F i) Keep.rf (h0.gown w10 (Or.inl (by decide)))) (h0.gown w9 (Or.inl (by decide)))) (h0.gown w11 (Or.inl (by decide))), by rw [h3.e w9]; exact if_pos rfl, by rw [h3.e w10]; exact if_pos rfl, by rw [h3.e w11]; exact if_pos rfl, h3.f 26⟩
      have hG := hM.1
      refine ⟨(h 0).1, pa_i h.r10.1 ⟨h.r10.2.1, inRn h.r10.2.2 (by omega) (by decide), (h 0).1, pa_i h.r9.1 (Or.inr ⟨h.r9.2.1, inRn h.r9.2.2 (by omega) (by decide), (h 0).1, pa_i h.r11.1 ⟨h.r11.2.1, inRn h.r11.2.2 (by omega) (by decide), ?_⟩⟩)⟩⟩
      have fin : ∀ v, v = pnI (T.fr (A.getLastD 0)) → ∃ k1, k1 < 40000 ∧ I_ris2 (y 0) e ix c F i y G T S k1 [(0, .inr (.inr (some (y 0)))), (1, .inl (nI e)), (4, .inl (nI (16 * e))), (5, .inl (ndI A.length)), (6, .inl (ndI (A.getLastD 0))), (7, .inl 0), (8, .inl v)] [] _ 0 0 := fun v hv => ⟨20001 + T.od.length, by omega, A, B, T.od.length, T.fr (A.getLastD 0), D, false, rfl, hA, hM, hD, ⟨fun z => Or.inr z, fun z => z.elim (fun q => by cases q) (fun q => q)⟩, by rw [hv]; rfl, rfl, rfl, rfl⟩
      cases hl : A.getLastD 0 with
      | zero =>
        rw [hl] at fin
        exact ⟨fun w => absurd w (by decide), fun _ => ⟨(hG 0).1, fin _ (hG 9)⟩⟩
      | succ x =>
        rw [hl] at fin
        have hx : x < G.n := by
          rcases hA.lf with z | z
          · rw [hl] at z; cases z
          · rw [hl] at z
            obtain ⟨k, e1, e2, -⟩ := h.ond z
            omega
        exact ⟨fun _ => ⟨(hG 0).1, hG.g15 (e := x) hx (fin _ rfl)⟩, fun w => absurd (nI_pos' (show x < 2147483648 by omega)) w⟩
    · cases hm
      obtain ⟨A, B, t, q, D, hz, rfl, hA, hM, hD, hH, rfl, rfl, rfl, rfl⟩ := h
      refine ⟨300, ?_⟩
      show (((pnI q) < 0 → (∃ k1, k1 < (20001 + t) ∧ I_ris3 g e ix c F i y G T S k1 [(0, .inr (.inr (some g))), (1, .inl (nI e)), (4, .inl (nI (16 * e))), (5, .inl (ndI A.length)), (6, .inl (ndI (A.getLastD 0))), (7, .inl (bI hz))] [] S1 0 0)) ∧ (¬ (pnI q) < 0 → (isO S1 13 g ∧ (0 = 0 ∧ ((pa (mR S1 1308 g) fun a_1 => (∃ (o_2 : Nat), nI (16 * e) = nI o_2 ∧ (∃ (e_3 : Nat), pnI q = nI e_3 ∧ (∃ (F_4 : Nat → Nat × Nat) (i_5 : Nat) (y_6 : Nat → Nat) (G_7 : Gr) (T_8 : Tr) (W_9 : Nat → Nat), (g = y_6 0 ∧ RG S1 F_4 i_5 y_6 G_7 T_8 ∧ StR S1 a_1 o_2 W_9 ∧ e_3 < G_7.n) ∧ 0 ≤ 0 ∧ 0 ≤ 0 ∧ ((isO S1 13 g ∧ (pa (mR S1 1313 g) fun a_11 => ∃ v_12 : Int32, (isO S1 17 a_11 ∧ inR S1 a_11 (pnI q) ∧ v_12 = eI S1 a_11 (pnI q).toNatClampNeg ∨ a_11 = (mQ S1).1 ∧ vp_in (pnI q) 16 ∧ v_12 = mRem (pnI q).toNatClampNeg) ∧ (∃ k1, k1 < (20001 + t) ∧ I_ris2 g e ix c F i y G T S k1 [(0, .inr (.inr (some g))), (1, .inl (nI e)), (4, .inl (nI (16 * e))), (5, .inl (ndI A.length)), (6, .inl (ndI (A.getLastD 0))), (7, .inl ((bI hz) ||| (bI (G_7.has W_9 e_3)))), (8, .inl v_12)] [] S1 0 0)))))))))))))
      obtain ⟨rfl, h, he, hc, htg, hne, hT, hix, hcc⟩ := hp
      have hnm := h.nm
      have hG := hM.1
      cases q with
      | none =>
        have e1 : ¬ inH G T e (A.getLastD 0) t none := fun ⟨z, z1, _⟩ => by cases t <;> cases z1
        exact ⟨fun _ => ⟨20000, by omega, A, B, hz, rfl, hA, hM, ⟨fun z => (hH.1 z).elim id (fun q => absurd q e1), fun z => hH.2 (Or.inl z)⟩, rfl, rfl, rfl, rfl⟩, fun w => absurd (by decide : (-1 : Int32) < 0) w⟩
      | some z =>
        obtain ⟨m, B1, C1, D1, rfl, r1, r2, r3, rfl, r5⟩ := hD.nd
        obtain ⟨z', rfl, hz', -⟩ := hG.ond r5
        refine ⟨fun w => absurd w (nI_pos (show z' < 2147483648 by omega)), fun _ => ⟨(hG 0).1, rfl, pa_i hG.r8.1 ⟨16 * e, rfl, z', rfl, F, i, y, G, T, (G.ev e).pa, ⟨rfl, hG, hG.stR (by omega), hz'⟩, Nat.le_refl _, Nat.le_refl _, (hG 0).1, hG.g13 (e := z') r5 ⟨20001 + m, by omega, A, B, m, T.sb (z' + 1), D1, (hz || G.has (G.ev e).pa z'), rfl, hA, hM, r3, ?_, ?_, rfl, rfl, rfl⟩⟩⟩⟩
        · have e1 : ivW G (G.ev e).pa (z' + 1) = G.has (G.ev e).pa z' := ivW_has G _ (z' + 1)
          refine hH.trans ⟨fun w => ?_, fun w => ?_⟩
          · rcases w with w | ⟨v, v1, v2⟩
            · exact Or.inl (by rw [w]; rfl)
            · rcases List.mem_cons.1 v1 with u | u
              · rw [u, e1] at v2
                exact Or.inl (by rw [v2, Bool.or_true])
              · exact Or.inr ⟨v, u, v2⟩
          · rcases w with w | ⟨v, v1, v2⟩
            · rw [Bool.or_eq_true] at w
              rcases w with w | w
              · exact Or.inl w
              · exact Or.inr ⟨z' + 1, List.mem_cons_self, by rw [e1]; exact w⟩
            · exact Or.inr ⟨v, List.mem_cons_of_mem _ v1, v2⟩
        · have : (bI hz ||| bI (G.has (G.ev e).pa z')) = bI (hz || G.has (G.ev e).pa z') := by cases hz <;> cases G.has (G.ev e).pa z' <;> rfl
          rw [this]
    · cases hm
      obtain ⟨A, B, hz, rfl, hA, hM, hH, rfl, rfl, rfl, rfl⟩ := h
      refine ⟨300, ?_⟩
      show (isO S1 13 g ∧ ((¬ (bI hz) = 0 → (pa (mR S1 1316 g) fun a_1 => ((isO S1 16 a_1 ∧ inR S1 a_1 (nI e) ∧ (isO (rI S1 a_1 (upd (eI S1 a_1) (nI e).toNatClampNeg ((0 : Int32).toInt8.toInt32))) 13 g ∧ (pa (mR (rI S1 a_1 (upd (eI S1 a_1) (nI e).toNatClampNeg ((0 : Int32).toInt8.toInt32))) 1312 g) fun a_2 => isO (rI S1 a_1 (upd (eI S1 a_1) (nI e).toNatClampNeg ((0 : Int32).toInt8.toInt32))) 17 a_2 ∧ inR (rI S1 a_1 (upd (eI S1 a_1) (nI e).toNatClampNeg ((0 : Int32).toInt8.toInt32))) a_2 (nI e) ∧ (((bI hz) = 0 → (∃ k1, k1 < 20000 ∧ I_ris5 g e ix c F i y G T S k1 [(0, .inr (.inr (some g))), (1, .inl (nI e))] [] (rI (rI S1 a_1 (upd (eI S1 a_1) (nI e).toNatClampNeg ((0 : Int32).toInt8.toInt32))) a_2 (upd (eI (rI S1 a_1 (upd (eI S1 a_1) (nI e).toNatClampNeg ((0 : Int32).toInt8.toInt32))) a_2) (nI e).toNatClampNeg (ndI (A.getLastD 0)))) 0 0)) ∧ (¬ (bI hz) = 0 → (∃ k1, k1 < 20000 ∧ I_ris4 g e ix c F i y G T S k1 [(0, .inr (.inr (some g))), (1, .inl (nI e)), (4, .inl (nI (16 * e))), (8, .inl ((ndI A.length) + (1 : Int32)))] [] (rI (rI S1 a_1 (upd (eI S1 a_1) (nI e).toNatClampNeg ((0 : Int32).toInt8.toInt32))) a_2 (upd (eI (rI S1 a_1 (upd (eI S1 a_1) (nI e).toNatClampNeg ((0 : Int32).toInt8.toInt32))) a_2) (nI e).toNatClampNeg (ndI (A.getLastD 0)))) 0 0)))))) ∨ (isO S1 20 a_1 ∧ inR S1 a_1 (nI e) ∧ (isO (rI S1 a_1 (upd (eI S1 a_1) (nI e).toNatClampNeg (vp_nar .boolean (0 : Int32)))) 13 g ∧ (pa (mR (rI S1 a_1 (upd (eI S1 a_1) (nI e).toNatClampNeg (vp_nar .boolean (0 : Int32)))) 1312 g) fun a_3 => isO (rI S1 a_1 (upd (eI S1 a_1) (nI e).toNatClampNeg (vp_nar .boolean (0 : Int32)))) 17 a_3 ∧ inR (rI S1 a_1 (upd (eI S1 a_1) (nI e).toNatClampNeg (vp_nar .boolean (0 : Int32)))) a_3 (nI e) ∧ (((bI hz) = 0 → (∃ k1, k1 < 20000 ∧ I_ris5 g e ix c F i y G T S k1 [(0, .inr (.inr (some g))), (1, .inl (nI e))] [] (rI (rI S1 a_1 (upd (eI S1 a_1) (nI e).toNatClampNeg (vp_nar .boolean (0 : Int32)))) a_3 (upd (eI (rI S1 a_1 (upd (eI S1 a_1) (nI e).toNatClampNeg (vp_nar .boolean (0 : Int32)))) a_3) (nI e).toNatClampNeg (ndI (A.getLastD 0)))) 0 0)) ∧ (¬ (bI hz) = 0 → (∃ k1, k1 < 20000 ∧ I_ris4 g e ix c F i y G T S k1 [(0, .inr (.inr (some g))), (1, .inl (nI e)), (4, .inl (nI (16 * e))), (8, .inl ((ndI A.length) + (1 : Int32)))] [] (rI (rI S1 a_1 (upd (eI S1 a_1) (nI e).toNatClampNeg (vp_nar .boolean (0 : Int32)))) a_3 (upd (eI (rI S1 a_1 (upd (eI S1 a_1) (nI e).toNatClampNeg (vp_nar .boolean (0 : Int32)))) a_3) (nI e).toNatClampNeg (ndI (A.getLastD 0)))) 0 0))))))))) ∧ ((bI hz) = 0 → (pa (mR S1 1316 g) fun a_4 => ((isO S1 16 a_4 ∧ inR S1 a_4 (nI e) ∧ (isO (rI S1 a_4 (upd (eI S1 a_4) (nI e).toNatClampNeg ((1 : Int32).toInt8.toInt32))) 13 g ∧ (pa (mR (rI S1 a_4 (upd (eI S1 a_4) (nI e).toNatClampNeg ((1 : Int32).toInt8.toInt32))) 1312 g) fun a_5 => isO (rI S1 a_4 (upd (eI S1 a_4) (nI e).toNatClampNeg ((1 : Int32).toInt8.toInt32))) 17 a_5 ∧ inR (rI S1 a_4 (upd (eI S1 a_4) (nI e).toNatClampNeg ((1 : Int32).toInt8.toInt32))) a_5 (nI e) ∧ (((bI hz) = 0 → (∃ k1, k1 < 20000 ∧ I_ris5 g e ix c F i y G T S k1 [(0, .inr (.inr (some g))), (1, .inl (nI e))] [] (rI (rI S1 a_4 (upd (eI S1 a_4) (nI e).toNatClampNeg ((1 : Int32).toInt8.toInt32))) a_5 (upd (eI (rI S1 a_4 (upd (eI S1 a_4) (nI e).toNatClampNeg ((1 : Int32).toInt8.toInt32))) a_5) (nI e).toNatClampNeg (ndI (A.getLastD 0)))) 0 0)) ∧ (¬ (bI hz) = 0 → (∃ k1, k1 < 20000 ∧ I_ris4 g e ix c F i y G T S k1 [(0, .inr (.inr (some g))), (1, .inl (nI e)), (4, .inl (nI (16 * e))), (8, .inl ((ndI A.length) + (1 : Int32)))] [] (rI (rI S1 a_4 (upd (eI S1 a_4) (nI e).toNatClampNeg ((1 : Int32).toInt8.toInt32))) a_5 (upd (eI (rI S1 a_4 (upd (eI S1 a_4) (nI e).toNatClampNeg ((1 : Int32).toInt8.toInt32))) a_5) (nI e).toNatClampNeg (ndI (A.getLastD 0)))) 0 0)))))) ∨ (isO S1 20 a_4 ∧ inR S1 a_4 (nI e) ∧ (isO (rI S1 a_4 (upd (eI S1 a_4) (nI e).toNatClampNeg (vp_nar .boolean (1 : Int32)))) 13 g ∧ (pa (mR (rI S1 a_4 (upd (eI S1 a_4) (nI e).toNatClampNeg (vp_nar .boolean (1 : Int32)))) 1312 g) fun a_6 => isO (rI S1 a_4 (upd (eI S1 a_4) (nI e).toNatClampNeg (vp_nar .boolean (1 : Int32)))) 17 a_6 ∧ inR (rI S1 a_4 (upd (eI S1 a_4) (nI e).toNatClampNeg (vp_nar .boolean (1 : Int32)))) a_6 (nI e) ∧ (((bI hz) = 0 → (∃ k1, k1 < 20000 ∧ I_ris5 g e ix c F i y G T S k1 [(0, .inr (.inr (some g))), (1, .inl (nI e))] [] (rI (rI S1 a_4 (upd (eI S1 a_4) (nI e).toNatClampNeg (vp_nar .boolean (1 : Int32)))) a_6 (upd (eI (rI S1 a_4 (upd (eI S1 a_4) (nI e).toNatClampNeg (vp_nar .boolean (1 : Int32)))) a_6) (nI e).toNatClampNeg (ndI (A.getLastD 0)))) 0 0)) ∧ (¬ (bI hz) = 0 → (∃ k1, k1 < 20000 ∧ I_ris4 g e ix c F i y G T S k1 [(0, .inr (.inr (some g))), (1, .inl (nI e)), (4, .inl (nI (16 * e))), (8, .inl ((ndI A.length) + (1 : Int32)))] [] (rI (rI S1 a_4 (upd (eI S1 a_4) (nI e).toNatClampNeg (vp_nar .boolean (1 : Int32)))) a_6 (upd (eI (rI S1 a_4 (upd (eI S1 a_4) (nI e).toNatClampNeg (vp_nar .boolean (1 : Int32)))) a_6) (nI e).toNatClampNeg (ndI (A.getLastD 0)))) 0 0)))))))))))
      obtain ⟨rfl, h, he, hc, htg, hne, hT, hix, hcc⟩ := hp
      have hnm := h.nm
      have hol := h.odl
      obtain ⟨hG, hK, m9, m10, m11, m26⟩ := hM
      have ce : (nI e).toNatClampNeg = e := nI_clamp (by omega)
      have w9 : rwK 9 := Or.inl (by decide)
      have w10 : rwK 10 := Or.inl (by decide)
      have w11 : rwK 11 := Or.inl (by decide)
      have w12 : rwK 12 := Or.inl (by decide)
      have w16 : rwK 16 := Or.inl (by decide)
      have h0 := hG.rs
      cases hz with
      | true =>
        have hH1 := hH.2 rfl
        obtain ⟨p, p1, p2, p3⟩ := hA.be hT hH1
        have h1 := h0.wr w16 ce (vp_nar .boolean 0)
        have h2 := h1.wr w12 ce (ndI (A.getLastD 0))
        have hM : inM S _ F i y G T e ix c := ⟨h2.rg (RGm.off hG.rm hc htg (fun k a b c d f => by unfold updF; rw [if_neg d, if_neg f]) (fun j hj => rfl) (fun j hj => rfl) (fun j hj => rfl)), Keep.rI (P := gO F i) (Keep.rI (P := gO F i) hK (h0.gown w16 (Or.inl (by decide)))) (h0.gown w12 (Or.inl (by decide))), by rw [h2.e w9]; exact m9, by rw [h2.e w10]; exact m10, by rw [h2.e w11]; exact m11, (h2.f 26).trans m26⟩
        refine ⟨(hG 0).1, fun _ => pa_i hG.r16.1 (Or.inr ⟨hG.r16.2.1, inRn hG.r16.2.2 (by omega) (by decide), (hG 0).1, pa_i hG.r12.1 ⟨hG.r12.2.1, inRn hG.r12.2.2 (by omega) (by decide), fun w => absurd w (by decide), fun _ => ⟨8400 + (p - A.length), by omega, A, B, A.length, p, rfl, hA, hM, hH1, by rw [h2.e w16]; exact if_pos rfl, Nat.le_refl _, p1, p2, p3, fun n a b => absurd b (by omega), by rw [ndI_1], rfl, rfl, rfl⟩⟩⟩), fun w => absurd w (by decide)⟩
      | false =>
        have hH1 : ¬ inH G T e (A.getLastD 0) T.od.length (T.fr (A.getLastD 0)) := fun z => by have := hH.1 z; cases this
        have h1 := h0.wr w16 ce (vp_nar .boolean 1)
        have h2 := h1.wr w12 ce (ndI (A.getLastD 0))
        have hM : inM S _ F i y G T e ix c := ⟨h2.rg (RGm.off hG.rm hc htg (fun k a b c d f => by unfold updF; rw [if_neg d, if_neg f]) (fun j hj => rfl) (fun j hj => rfl) (fun j hj => rfl)), Keep.rI (P := gO F i) (Keep.rI (P := gO F i) hK (h0.gown w16 (Or.inl (by decide)))) (h0.gown w12 (Or.inl (by decide))), by rw [h2.e w9]; exact m9, by rw [h2.e w10]; exact m10, by rw [h2.e w11]; exact m11, (h2.f 26).trans m26⟩
        refine ⟨(hG 0).1, fun w => absurd rfl w, fun _ => pa_i hG.r16.1 (Or.inr ⟨hG.r16.2.1, inRn hG.r16.2.2 (by omega) (by decide), (hG 0).1, pa_i hG.r12.1 ⟨hG.r12.2.1, inRn hG.r12.2.2 (by omega) (by decide), fun _ => ⟨8300, by decide, A, B, none, rfl, hA, hM, Or.inr ⟨hH1, rfl⟩, ⟨by rw [h2.e w12]; exact if_pos rfl, by rw [h2.e w16]; exact if_pos rfl⟩, rfl, rfl, rfl, rfl⟩, fun w => absurd rfl w⟩⟩)⟩
    · cases hm
      obtain ⟨A, B, j, p, rfl, hA, hM, hH, h16, hj1, hj2, hj3, hj4, hj5, rfl, rfl, rfl, rfl⟩ := h
      refine ⟨300, ?_⟩
      show (isO S1 13 g ∧ (isO S1 13 g ∧ (pa (mR S1 1321 g) fun a_1 => ∃ v_2 : Int32, (isO S1 17 a_1 ∧ inR S1 a_1 (nI j) ∧ v_2 = eI S1 a_1 (nI j).toNatClampNeg ∨ a_1 = (mQ S1).1 ∧ vp_in (nI j) 16 ∧ v_2 = mRem (nI j).toNatClampNeg) ∧ (0 = 0 ∧ ((pa (mR S1 1308 g) fun a_3 => (∃ (o_4 : Nat), nI (16 * e) = nI o_4 ∧ (∃ (e_5 : Nat), v_2 = nI e_5 ∧ (∃ (F_6 : Nat → Nat × Nat) (i_7 : Nat) (y_8 : Nat → Nat) (G_9 : Gr) (T_10 : Tr) (W_11 : Nat → Nat), (g = y_8 0 ∧ RG S1 F_6 i_7 y_8 G_9 T_10 ∧ StR S1 a_3 o_4 W_11 ∧ e_5 < G_9.n) ∧ 0 ≤ 0 ∧ 0 ≤ 0 ∧ (((¬ (bI (G_9.has W_11 e_5)) = 0 → (isO S1 13 g ∧ (isO S1 13 g ∧ (pa (mR S1 1321 g) fun a_13 => ∃ v_14 : Int32, (isO S1 17 a_13 ∧ inR S1 a_13 (nI j) ∧ v_14 = eI S1 a_13 (nI j).toNatClampNeg ∨ a_13 = (mQ S1).1 ∧ vp_in (nI j) 16 ∧ v_14 = mRem (nI j).toNatClampNeg) ∧ (pa (mR S1 1312 g) fun a_15 => isO S1 17 a_15 ∧ inR S1 a_15 (nI e) ∧ (∃ k1, k1 < (8400 + (p - j)) ∧ I_ris5 g e ix c F i y G T S k1 [(0, .inr (.inr (some g))), (1, .inl (nI e))] [] (rI S1 a_15 (upd (eI S1 a_15) (nI e).toNatClampNeg v_14)) 0 0)))))) ∧ ((bI (G_9.has W_11 e_5)) = 0 → (∃ k1, k1 < (8400 + (p - j)) ∧ I_ris4 g e ix c F i y G T S k1 [(0, .inr (.inr (some g))), (1, .inl (nI e)), (4, .inl (nI (16 * e))), (8, .inl ((nI j) + (1 : Int32)))] [] S1 0 0)))))))))))))
      obtain ⟨rfl, h, he, hc, htg, hne, hT, hix, hcc⟩ := hp
      have hnm := h.nm
      have hol := h.odl
      obtain ⟨hG, hK, m9, m10, m11, m26⟩ := hM
      have ce : (nI e).toNatClampNeg = e := nI_clamp (by omega)
      have w9 : rwK 9 := Or.inl (by decide)
      have w10 : rwK 10 := Or.inl (by decide)
      have w11 : rwK 11 := Or.inl (by decide)
      have w12 : rwK 12 := Or.inl (by decide)
      have w16 : rwK 16 := Or.inl (by decide)
      have h0 := hG.rs
      have q : j < T.od.length := by omega
      obtain ⟨x, hx, hxn, hxc, hxo⟩ := hG.odn q
      have e1 : ivW G (G.ev e).pa (x + 1) = G.has (G.ev e).pa x := ivW_has G _ (x + 1)
      refine ⟨(hG 0).1, (hG 0).1, hG.g21 q ⟨rfl, pa_i hG.r8.1 ⟨16 * e, rfl, x, by rw [hx]; rfl, F, i, y, G, T, (G.ev e).pa, ⟨rfl, hG, hG.stR (by omega), hxn⟩, Nat.le_refl _, Nat.le_refl _, fun w => ?_, fun w => ?_⟩⟩⟩
      · rw [bI_0, Bool.not_eq_false, ← e1] at w
        have h1 := h0.wr w12 ce (nI x)
        have hM : inM S _ F i y G T e ix c := ⟨h1.rg (RGm.off hG.rm hc htg (fun k a b c d f => by unfold updF; rw [if_neg d]) (fun j hj => rfl) (fun j hj => rfl) (fun j hj => rfl)), Keep.rI (P := gO F i) hK (h0.gown w12 (Or.inl (by decide))), by rw [h1.e w9]; exact m9, by rw [h1.e w10]; exact m10, by rw [h1.e w11]; exact m11, (h1.f 26).trans m26⟩
        have hj' : j = A.length + (j - A.length) := by omega
        have hB1 : B.getD (j - A.length) 0 = x + 1 := by
          have := getD_app_r A B (j - A.length)
          rw [← hj', ← hA.1, hx] at this
          exact this.symm
        have hfd : B.find? (ivW G (G.ev e).pa) = some (x + 1) := by
          rw [← hB1]
          refine find_at ?_ (by rw [hB1]; exact w) (fun m hm => ?_)
          · have := q; rw [hA.1, List.length_append] at this; omega
          · have := hj5 (A.length + m) (Nat.le_add_right _ _) (by omega)
            rw [hA.1, getD_app_r] at this
            exact this
        refine ⟨(hG 0).1, (hG 0).1, hG.g21 q ?_⟩
        rw [hx, Nat.add_sub_cancel]
        exact pa_i hG.r12.1 ⟨hG.r12.2.1, inRn hG.r12.2.2 (by omega) (by decide), 8300, by omega, A, B, some (x + 1), rfl, hA, hM, Or.inl ⟨hH, hfd.symm⟩, ⟨by rw [h1.e w12]; exact if_pos rfl, by rw [h1.e w16]; exact h16⟩, rfl, rfl, rfl, rfl⟩
      · rw [bI_0, ← e1, ← hx] at w
        have hjp : j ≠ p := fun z => by rw [z, hj4] at w; cases w
        refine ⟨8400 + (p - (j + 1)), by omega, A, B, j + 1, p, rfl, hA, ⟨hG, hK, m9, m10, m11, m26⟩, hH, h16, by omega, by omega, hj3, hj4, fun n a b => ?_, by rw [nI_1], rfl, rfl, rfl⟩
        by_cases c : n = j
        · rw [c]; exact w
        · exact hj5 n a (by omega)
    · cases hm
      obtain ⟨A, B, rg, rfl, hA, hM, hR, hE, rfl, rfl, rfl, rfl⟩ := h
      refine ⟨300, ?_⟩
      show (0 = 0 ∧ (∃ (e_1 : Nat), nI e = nI e_1 ∧ (∃ (F_2 : Nat → Nat × Nat) (i_3 : Nat) (y_4 : Nat → Nat) (G_5 : Gr) (T_6 : Tr) (lf_7 : Nat) (rg_8 : Option Nat), (g = y_4 0 ∧ RG S1 F_2 i_3 y_4 G_5 T_6 ∧ e_1 < G_5.n ∧ e_1 + 1 ∉ T_6.od ∧ T_6.ok ∧ hnP T_6 lf_7 rg_8 ∧ hgE S1 y_4 e_1 lf_7 rg_8) ∧ 0 ≤ 0 ∧ 0 ≤ 0 ∧ (∀ (S_9 : MM), (hgQ S1 S_9 F_2 i_3 y_4 G_5 T_6 e_1 lf_7 rg_8) → (0 = 0 ∧ (∃ (e_10 : Nat), nI e = nI e_10 ∧ (∃ (F_11 : Nat → Nat × Nat) (i_12 : Nat) (y_13 : Nat → Nat) (G_14 : Gr) (T_15 : Tr) (lf_16 : Nat) (rg_17 : Option Nat) (U_18 V_19 : List Nat), (g = y_13 0 ∧ RG S_9 F_11 i_12 y_13 G_14 (hgT G_14 T_15 e_10 lf_16 rg_17) ∧ e_10 < G_14.n ∧ e_10 + 1 ∉ T_15.od ∧ T_15.ok ∧ hnP T_15 lf_16 rg_17 ∧ hgE S_9 y_13 e_10 lf_16 rg_17 ∧ eI S_9 (y_13 13) e_10 = pnI ((hgT G_14 T_15 e_10 lf_16 rg_17).sb (e_10 + 1)) ∧ plP T_15 (hgT G_14 T_15 e_10 lf_16 rg_17) (lessK G_14 e_10) (e_10 + 1) lf_16 rg_17 U_18 V_19) ∧ 0 ≤ 0 ∧ 0 ≤ 0 ∧ ((isO S_9 13 g ∧ (∃ k1, k1 < 8300 ∧ I_ris6 g e ix c F i y G T S k1 [(0, .inr (.inr (some g))), (1, .inl (nI e)), (8, .inl (nI U_18.length)), (9, .inl (mI S_9 1302 g))] [] S_9 0 0))))))))))
      obtain ⟨rfl, h, he, hc, htg, hne, hT, hix, hcc⟩ := hp
      have hnm := h.nm
      have hol := h.odl
      obtain ⟨hG, hK, m9, m10, m11, m26⟩ := hM
      have hP : hnP T (A.getLastD 0) rg := ⟨hA.lf, fun r hr => by rw [hA.1]; exact List.mem_append_right _ (Tr.rgt_mem hR hr)⟩
      obtain ⟨U, V, hpl, hok⟩ := Tr.put_pl (lt := lessK G e) hT hne (Nat.succ_ne_zero e) hP.1 hP.2
      refine ⟨rfl, e, rfl, F, i, y, G, T, A.getLastD 0, rg, ⟨rfl, hG, by omega, hne, hT, hP, hE⟩, Nat.le_refl _, Nat.le_refl _, fun S9 hQ => ?_⟩
      obtain ⟨q1, q2, q3, q26, q4⟩ := hQ
      have ho := hgT_od G T e (A.getLastD 0) rg
      have e2 : mI S9 1302 (y 0) = nI T.od.length := (q1 2).2.2.trans (by rw [ho])
      have hUl : U.length ≤ T.od.length := by rw [hpl.1, List.length_append]; omega
      refine ⟨rfl, e, rfl, F, i, y, G, T, A.getLastD 0, rg, U, V, ⟨rfl, q1, by omega, hne, hT, hP, ⟨?_, ?_⟩, q2, hpl⟩, Nat.le_refl _, Nat.le_refl _, (q1 0).1, T.od.length - U.length, by omega, A, B, rg, U, V, _, _, _, eI S9 (y 21), T.od.length, rfl, hA, hR, hpl.1, hok, ⟨q1.rm, ?_, ?_, ?_, q2⟩, q1.rs.cg (fun k => ?_), ⟨hK.tr q3, q26.trans m26⟩, hUl, Nat.le_refl _, fun _ _ => rfl, fun n a b => absurd a (by omega), by rw [e2], rfl, rfl, rfl⟩
      · rw [q4 12 (Or.inl (by decide)) (by decide) (by decide) (by decide)]; exact hE.1
      · rw [q4 16 (Or.inl (by decide)) (by decide) (by decide) (by decide)]; exact hE.2
      · show eI S9 (y 9) e = 1
        rw [q4 9 (Or.inl (by decide)) (by decide) (by decide) (by decide)]; exact m9
      · show eI S9 (y 10) e = _
        rw [q4 10 (Or.inl (by decide)) (by decide) (by decide) (by decide)]; exact m10
      · show eI S9 (y 11) e = _
        rw [q4 11 (Or.inl (by decide)) (by decide) (by decide) (by decide)]; exact m11
      · rw [updF]
        by_cases c : k = 21
        · rw [if_pos c, c]
        · rw [if_neg c]
    · cases hm
      obtain ⟨A, B, rg, U, V, fi, fe, fz, f, j, rfl, hA, hR, hU, hO, hF, hRS, ⟨hK, h26⟩, hj1, hj2, hf1, hf2, rfl, rfl, rfl, rfl⟩ := h
      refine ⟨300, ?_⟩
      show (((nI j) ≤ (nI U.length) → (isO S1 13 g ∧ (pa (mR S1 1321 g) fun a_1 => isO S1 17 a_1 ∧ inR S1 a_1 (nI U.length) ∧ (isO (rI S1 a_1 (upd (eI S1 a_1) (nI U.length).toNatClampNeg (nI e))) 13 g ∧ (True ∧ (isO (rI S1 a_1 (upd (eI S1 a_1) (nI U.length).toNatClampNeg (nI e))) 13 g ∧ (([] : List MV) = [] ∧ mret none (sp_ris g e ix c F i y G T) [.inr (.inr (some g)), .inl (nI e), .inl (nI ix), .inl (nI c)] S none (sI (rI S1 a_1 (upd (eI S1 a_1) (nI U.length).toNatClampNeg (nI e))) 1302 g ((mI (rI S1 a_1 (upd (eI S1 a_1) (nI U.length).toNatClampNeg (nI e))) 1302 g) + (1 : Int32))) 0 0))))))) ∧ (¬ (nI j) ≤ (nI U.length) → (isO S1 13 g ∧ (isO S1 13 g ∧ (pa (mR S1 1321 g) fun a_2 => ∃ v_3 : Int32, (isO S1 17 a_2 ∧ inR S1 a_2 ((nI j) - (1 : Int32)) ∧ v_3 = eI S1 a_2 ((nI j) - (1 : Int32)).toNatClampNeg ∨ a_2 = (mQ S1).1 ∧ vp_in ((nI j) - (1 : Int32)) 16 ∧ v_3 = mRem ((nI j) - (1 : Int32)).toNatClampNeg) ∧ (pa (mR S1 1321 g) fun a_4 => isO S1 17 a_4 ∧ inR S1 a_4 (nI j) ∧ (∃ k1, k1 < (j - U.length) ∧ I_ris6 g e ix c F i y G T S k1 [(0, .inr (.inr (some g))), (1, .inl (nI e)), (8, .inl (nI U.length)), (9, .inl ((nI j) + (-1 : Int32)))] [] (rI S1 a_4 (upd (eI S1 a_4) (nI j).toNatClampNeg v_3)) 0 0)))))))
      obtain ⟨rfl, h, he, hc, htg, hne, hT, hix, hcc⟩ := hp
      have hnm := h.nm
      have hol := h.odl
      have hol1 := h.odl1 he hne
      obtain ⟨hm9, m9, m10, m11, m13⟩ := hF
      have w21 : rwK 21 := Or.inl (by decide)
      have r21 := hRS.r (k := 21) (by decide)
      have ho := hgT_od G T e (A.getLastD 0) rg
      have hm7 := hm9 7
      rw [RGm, ho] at hm7
      refine if_le (by omega) (by omega) (fun w => ?_) (fun w => ?_)
      · have hjU : j = U.length := by omega
        have cU : (nI U.length).toNatClampNeg = U.length := nI_clamp (by omega)
        have h1 := hRS.wr w21 cU (nI e)
        have e2 : mI S1 1302 (y 0) = nI T.od.length := (hRS.f 2).trans ((hm9 2).2.2.trans (by rw [ho]))
        have h2 := h1.si 2 (nI (T.od.length + 1))
        have hsame := Tr.put_same T (lessK G e) (A.getLastD 0) rg (e + 1) (U ++ (e + 1) :: V) T.od
        have hUl : T.od.length = U.length + V.length := by rw [hU, List.length_append]
        refine ⟨hRS.1.1, pa_i r21.1 ⟨r21.2.1, inRn r21.2.2 (show U.length < 8192 by omega) (by decide), hRS.1.1, trivial, hRS.1.1, rfl, trivial, ⟨rfl, T.put (lessK G e) (A.getLastD 0) rg (e + 1) (U ++ (e + 1) :: V), U, V, ⟨A, B, rg, hA.1, hA.2.1, hA.2.2, hR, by rw [hsame.2.2.2.2], hO⟩, ?_, ?_, hU, hsame.2.2.2.2, (h2.f 26).trans h26⟩, Nat.le_refl _, Nat.le_refl _⟩⟩
        · rw [mI_rI, e2, nI_1]
          refine h2.rg (RGm.setI hm9 (by omega) hc htg (ho.trans hU) hsame.2.2.2.2 (by rw [ho]; exact hne) ⟨hsame.1, hsame.2.1, hsame.2.2.1⟩ ?_ (fun k hk => if_neg hk) m9 m10 m11 ?_ ?_ (fun k hk => ?_))
          · rw [ho]; exact if_pos rfl
          · rw [hsame.2.2.1]; exact m13
          · rw [ho]
            intro n hn
            show upd f U.length (nI e) n = _
            rw [hsame.2.2.2.2, upd]
            by_cases c : n = U.length
            · rw [if_pos c, c, (at_app U V (e + 1)).2]; rfl
            · rw [if_neg c]
              by_cases c2 : n < U.length
              · rw [hf1 n (by omega), hm7 n (by omega), hU, getD_app_l c2, getD_app_l c2]
              · obtain ⟨t, rfl⟩ : ∃ t, n = U.length + (t + 1) := ⟨n - U.length - 1, by omega⟩
                rw [hf2 _ (by omega) (by omega), show U.length + (t + 1) - 1 = U.length + t by omega, hm7 _ (by omega), hU, getD_app_r, getD_app_r]
                rfl
          · unfold updF
            rw [if_neg hk, if_neg hk]
        · exact Keep.sI (P := gO F i) (Keep.rI (P := gO F i) hK (hRS.gown w21 (Or.inl (by decide)))) hRS.gobj
      · obtain ⟨j', rfl⟩ : ∃ t, j = t + 1 := ⟨j - 1, by omega⟩
        have cj : (nI (j' + 1)).toNatClampNeg = j' + 1 := nI_clamp (by omega)
        have cj' : (nI j').toNatClampNeg = j' := nI_clamp (by omega)
        have ev : eI S1 (y 21) (nI j').toNatClampNeg = fe 21 j' := by rw [hRS.e w21, cj']; exact hf1 j' (by omega)
        have h1 := hRS.wr w21 cj (fe 21 j')
        rw [(nI_dcr j').1, (nI_dcr j').2]
        refine ⟨hRS.1.1, hRS.1.1, rdI (x := nI j') r21.1 r21.2.1 (inRn r21.2.2 (show j' < 8192 by omega) (by decide)) ev (pa_i r21.1 ⟨r21.2.1, inRn r21.2.2 (show j' + 1 < 8192 by omega) (by decide), j' - U.length, by omega, A, B, rg, U, V, fi, fe, fz, upd f (j' + 1) (fe 21 j'), j', rfl, hA, hR, hU, hO, ⟨hm9, m9, m10, m11, m13⟩, h1.cg (fun k => ?_), ⟨Keep.rI (P := gO F i) hK (hRS.gown w21 (Or.inl (by decide))), h26⟩, by omega, by omega, fun n hn => ?_, fun n a b => ?_, rfl, rfl, rfl, rfl⟩)⟩
        · unfold updF
          by_cases c : k = 21
          · rw [if_pos c, if_pos c, if_pos rfl]
          · rw [if_neg c, if_neg c, if_neg c]
        · rw [upd, if_neg (by omega)]; exact hf1 n (by omega)
        · rw [upd]
          by_cases c : n = j' + 1
          · rw [if_pos c, c]; rfl
          · rw [if_neg c]; exact hf2 n (by omega) b
theorem u_ris (l : Launch) : Us l yX12_insert cX12_insert 10 none 3 72 13 T_ris := by
  intro Rc Rs av S cs sl K Kx h
  unfold T_ris at h
  split at h
  · rename_i g_o e_v ix_v c_v
    obtain ⟨g, rfl, h_1⟩ := pa_of h
    obtain ⟨e, rfl, h_2⟩ := h_1
    obtain ⟨ix, rfl, h_3⟩ := h_2
    obtain ⟨c, rfl, h_4⟩ := h_3
    obtain ⟨F, i, y, G, T, hp, hc, hs, hk⟩ := h_4
    refine ⟨(sp_ris g e ix c F i y G T), c_ris l g e ix c F i y G T, fun _ _ h9 => ⟨_, _, h9.1, (h9.2.1 ▸ (h9.2.2.1 0).1)⟩, ⟨rfl, hp⟩, hc, hs, fun S' h8 => by
      obtain ⟨-, h8⟩ := h8
      exact hk _ h8, fun _ _ q => q.elim⟩
  · exact h.elim
