/-! ===== The reference's graph: placeOf ===== -/
theorem Rp.sib {fl fr sb : Nat → Option Nat} {n x : Nat} {p : Option Nat} {O : List Nat} (h : Rp fl fr sb n p O) (hx : x ∈ sibW sb n p) : ∃ L A B M m, Rp fl fr sb m (fl x) A ∧ Rp fl fr sb m (fr x) B ∧ Rp fl fr sb m (sb x) M ∧ O = L ++ A ++ x :: (B ++ M) := by
  induction n generalizing p O with
  | zero => cases p <;> cases hx
  | succ n ih =>
    cases p with
    | none => cases hx
    | some y =>
      obtain ⟨A, B, C, a, b, c, rfl⟩ := h
      rcases List.mem_cons.1 hx with z | z
      · subst z
        exact ⟨[], A, B, C, n, a, b, c, by simp⟩
      · obtain ⟨L, A1, B1, M1, m, r1, r2, r3, r4⟩ := ih c z
        exact ⟨A ++ y :: (B ++ L), A1, B1, M1, m, r1, r2, r3, by rw [r4]; simp⟩
theorem lastD_split (x : Nat) (B : List Nat) : ∃ C, x :: B = C ++ [B.getLastD x] := by
  rcases snoc_cases B with z | ⟨b, w, rfl⟩
  · subst z; exact ⟨[], rfl⟩
  · exact ⟨x :: b, by rw [List.getLastD_concat]; rfl⟩
/-- where the new node stands in the order, by its neighbours -/
def plP (T T1 : Tr) (lt : Nat → Bool) (e lf : Nat) (rg : Option Nat) (U V : List Nat) : Prop := T.od = U ++ V ∧ (∀ r, rg = some r → ∃ m Q R, RpT T1 m (T1.sb e) Q ∧ V = Q ++ r :: R) ∧ (rg = none → (lstW lt T.sb T.od.length none (T.row lf rg) = none → U.getLastD 0 = lf) ∧ ∀ x, lstW lt T.sb T.od.length none (T.row lf rg) = some x → ∃ m L B, RpT T1 m (T1.fr x) B ∧ U = L ++ x :: B)
theorem Tr.put_pl {T : Tr} {lt : Nat → Bool} {lf e : Nat} {rg : Option Nat} (h : T.ok) (he : e ∉ T.od) (he0 : e ≠ 0) (hl : lf = 0 ∨ lf ∈ T.od) (hr : ∀ r, rg = some r → r ∈ T.od) : ∃ U V, plP T (T.put lt lf rg e T.od) lt e lf rg U V ∧ (T.put lt lf rg e (U ++ e :: V)).ok := by
  obtain ⟨P, Q1, Q2, R, p1, p2, p3, p4, p5, p6, p7⟩ := Tr.put_ok (lt := lt) h he he0 hl hr
  refine ⟨P ++ Q1, Q2 ++ R, ⟨p1, ?_⟩, p2⟩
  have nd := h.2.1
  rw [p1] at nd
  have sub2 : ∀ z, z ∈ Q2 → z ∈ T.od := fun z hz => by rw [p1]; simp [hz]
  have sub1 : ∀ z, z ∈ Q1 → z ∈ T.od := fun z hz => by rw [p1]; simp [hz]
  cases hx : lstW lt T.sb T.od.length none (T.row lf rg) with
  | none =>
    have q0 := p6 hx
    subst q0
    refine ⟨fun r er => ?_, fun er => ⟨fun _ => by rw [List.append_nil]; exact p4 er, fun x w => (by cases w)⟩⟩
    subst er
    obtain ⟨R', hR⟩ : ∃ R', R = r :: R' := by
      have := p5 r rfl
      cases R with
      | nil => cases this
      | cons a b => cases this; exact ⟨b, rfl⟩
    subst hR
    have rQ : r ∉ Q2 := fun w => by
      rw [List.nodup_append] at nd
      have := nd.2.1
      rw [List.nodup_append] at this
      exact this.2.2 r w r (by simp) rfl
    refine ⟨T.od.length, Q2, R', ?_, rfl⟩
    rw [Tr.put_l hx]
    refine ⟨?_, sub2⟩
    show Rp (updO T.fl r (some e)) T.fr (updO T.sb e (T.fl r)) _ (updO T.sb e (T.fl r) e) Q2
    rw [updO_s]
    exact Rp.congr p3 (fun z hz => ⟨updO_o (fun w => rQ (w ▸ hz)), rfl, updO_o (fun w => he (w ▸ sub2 z hz))⟩)
  | some x =>
    obtain ⟨D, d1, d2, d3⟩ := p7 x hx
    obtain ⟨L, A, B, M, m, r1, r2, r3, r4⟩ := Rp.sib p3 (lstW_sib hx)
    have eB : D = B := d1.uniq r2
    subst eB
    obtain ⟨C, hC⟩ := lastD_split x D
    obtain ⟨Q', w, hQ⟩ : ∃ Q' w, Q1 = Q' ++ [w] := by
      rcases snoc_cases Q1 with z | ⟨b, w, z⟩
      · exact absurd z d2
      · exact ⟨b, w, z⟩
    have hw : w = D.getLastD x := by rw [hQ, List.getLastD_concat] at d3; exact d3
    have r5 : Q1 ++ Q2 = (L ++ A ++ C) ++ (D.getLastD x) :: M := by
      rw [r4, show L ++ A ++ x :: (D ++ M) = L ++ A ++ (x :: D) ++ M by simp, hC]; simp
    have r6 : Q1 ++ Q2 = Q' ++ (D.getLastD x) :: Q2 := by rw [hQ, ← hw]; simp
    have nd2 : (Q1 ++ Q2).Nodup := by
      rw [List.append_assoc, List.nodup_append] at nd
      have := nd.2.1
      rw [← List.append_assoc, List.nodup_append] at this
      exact this.1
    obtain ⟨u1, u2⟩ := mid_uniq (r5.symm.trans r6) (r5 ▸ nd2)
    have hQ1 : Q1 = L ++ A ++ x :: D := by
      rw [hQ, ← u1, hw, hC]; simp
    subst u2
    rw [r4] at nd2
    simp only [List.nodup_append, List.nodup_cons, List.mem_append, List.mem_cons, not_or] at nd2
    have xD : x ∉ D := fun w => nd2.2.1.1.1 w
    have xM : x ∉ M := fun w => nd2.2.1.1.2 w
    have ch : ∀ {n : Nat} {q : Option Nat} {K : List Nat}, Rp T.fl T.fr T.sb n q K → x ∉ K → (∀ z, z ∈ K → z ∈ T.od) → RpT (T.put lt lf rg e T.od) n q K := fun a b c => by
      rw [Tr.put_s hx]
      exact ⟨a.congr (fun z hz => ⟨rfl, rfl, by
        show updO (updO T.sb e (T.sb x)) x (some e) z = _
        rw [updO_o (fun w : z = x => b (w ▸ hz)), updO_o (fun w : z = e => he (w ▸ c z hz))]⟩), c⟩
    have hxO : x ∈ T.od := sub1 x (by rw [hQ1]; simp)
    have hxe : x ≠ e := fun w => he (w ▸ hxO)
    refine ⟨fun r er => ?_, fun er => ⟨fun w => (by cases w), fun x' w => ?_⟩⟩
    · subst er
      obtain ⟨R', hR⟩ : ∃ R', R = r :: R' := by
        have := p5 r rfl
        cases R with
        | nil => cases this
        | cons a b => cases this; exact ⟨b, rfl⟩
      subst hR
      have e1 : (T.put lt lf (some r) e T.od).sb e = T.sb x := by
        rw [Tr.put_s hx]
        show updO (updO T.sb e (T.sb x)) x (some e) e = _
        rw [updO_o (fun w => hxe w.symm), updO_s]
      refine ⟨m, M, R', ?_, rfl⟩
      rw [e1]
      exact ch r3 xM sub2
    · cases w
      have e1 : (T.put lt lf rg e T.od).fr = T.fr := by rw [Tr.put_s hx]; rfl
      refine ⟨m, P ++ (L ++ A), D, ?_, by rw [hQ1]; simp⟩
      rw [e1]
      exact ch r2 xD (fun z hz => sub1 z (by rw [hQ1]; simp [hz]))
theorem hgT_od (G : Gr) (T : Tr) (e lf : Nat) (rg : Option Nat) : (hgT G T e lf rg).od = T.od := (Tr.put_same T (lessK G e) lf rg (e + 1) T.od T.od).2.2.2.2
theorem at_app (U R : List Nat) (x : Nat) : U.length < (U ++ x :: R).length ∧ (U ++ x :: R).getD U.length 0 = x := by
  refine ⟨by rw [List.length_append, List.length_cons]; omega, ?_⟩
  rw [List.getD_eq_getElem?_getD, List.getElem?_append_right (Nat.le_refl _), Nat.sub_self]; rfl
theorem headD_app (B R : List Nat) (z : Nat) : ∃ R', B ++ z :: R = B.headD z :: R' := by
  cases B with
  | nil => exact ⟨R, rfl⟩
  | cons a b => exact ⟨b ++ z :: R, rfl⟩
def I_po (g e lf : Nat) (rg : Option Nat) (G : Gr) (T : Tr) (S : MM) (k : Nat) : KT := fun lo st S1 cs sl => ∃ b q, rg = none ∧ ((k = 0 ∧ q = some (e + 1) ∧ b = lstW (lessK G e) T.sb T.od.length none (T.fr lf)) ∨ ∃ t z A, k = t + 1 ∧ q = some z ∧ Rp T.fl T.fr T.sb (t + 1) (some z) A ∧ A.Nodup ∧ (∀ w, w ∈ A → w ∈ T.od) ∧ lessK G e z = true ∧ lstW (lessK G e) T.sb (t + 1) b (some z) = lstW (lessK G e) T.sb T.od.length none (T.fr lf)) ∧ lo = [(0, .inr (.inr (some g))), (1, .inl (nI e)), (2, .inl (ndI lf)), (3, .inl (pnI b)), (4, .inl (pnI q))] ∧ st = [] ∧ S = S1 ∧ cs = 0 ∧ sl = 0
def T_rpo : TR := fun Rc Rs av S cs sl K _Kx => match av with
  | [.inr (.inr g_o), .inl e_v] => pa g_o fun g => (∃ (e : Nat), e_v = nI e ∧ (∃ (F : Nat → Nat × Nat) (i : Nat) (y : Nat → Nat) (G : Gr) (T : Tr) (lf : Nat) (rg : Option Nat) (U V : List Nat), (g = y 0 ∧ RG S F i y G (hgT G T e lf rg) ∧ e < G.n ∧ e + 1 ∉ T.od ∧ T.ok ∧ hnP T lf rg ∧ hgE S y e lf rg ∧ eI S (y 13) e = pnI ((hgT G T e lf rg).sb (e + 1)) ∧ plP T (hgT G T e lf rg) (lessK G e) (e + 1) lf rg U V) ∧ cs ≤ Rc ∧ sl ≤ Rs ∧ (K (some (.inl (nI U.length))) S cs sl)))
  | _ => False
def sp_rpo (g : Nat) (e : Nat) (F : Nat → Nat × Nat) (i : Nat) (y : Nat → Nat) (G : Gr) (T : Tr) (lf : Nat) (rg : Option Nat) (U V : List Nat) : Sp := (fun av S => av = [.inr (.inr (some g)), .inl (nI e)] ∧ (g = y 0 ∧ RG S F i y G (hgT G T e lf rg) ∧ e < G.n ∧ e + 1 ∉ T.od ∧ T.ok ∧ hnP T lf rg ∧ hgE S y e lf rg ∧ eI S (y 13) e = pnI ((hgT G T e lf rg).sb (e + 1)) ∧ plP T (hgT G T e lf rg) (lessK G e) (e + 1) lf rg U V), fun _ S => 0, fun _ S => 0, fun _ S rv S' => rv = (some (.inl (nI U.length))) ∧ S' = S, fun _ _ _ _ => False)
def tX12_placeOf : CD := [(0, .aload_n 0), (1, .getfield 44), (4, .iload_n 1), (5, .iaload), (6, .istore_n 2), (7, .aload_n 0), (8, .getfield 56), (11, .iload_n 1), (12, .baload), (13, .ifCond .ne 35), (16, .aload_n 0), (17, .getfield 47), (20, .iload_n 1), (21, .iaload), (22, .ifCond .lt 20), (25, .aload_n 0), (26, .aload_n 0), (27, .aload_n 0), (28, .getfield 47), (31, .iload_n 1), (32, .iaload), (33, .invokevirtual 136), (36, .invokevirtual 139), (39, .goto 8), (42, .aload_n 0), (43, .iload_n 2), (44, .invokevirtual 139), (47, .ireturn), (48, .iconst (-1)), (49, .istore_n 3), (50, .aload_n 0), (51, .iload_n 2), (52, .iconst 1), (53, .invokevirtual 128), (56, .istore 4), (58, .iload 4), (60, .iload_n 1), (61, .if_icmp .eq 18), (64, .iload 4), (66, .istore_n 3), (67, .aload_n 0), (68, .getfield 47), (71, .iload 4), (73, .iaload), (74, .istore 4), (76, .goto (-18)), (79, .iload_n 3), (80, .ifCond .lt 15), (83, .aload_n 0), (84, .aload_n 0), (85, .iload_n 3), (86, .invokevirtual 142), (89, .invokevirtual 139), (92, .iconst 1), (93, .iadd), (94, .ireturn), (95, .iload_n 2), (96, .ifCond .ge 7), (99, .iconst 0), (100, .goto 10), (103, .aload_n 0), (104, .iload_n 2), (105, .invokevirtual 139), (108, .iconst 1), (109, .iadd), (110, .ireturn)]
set_option maxRecDepth 100000 in
theorem kX12_placeOf : chk cX12_placeOf tX12_placeOf = true := by decide +kernel
theorem vX12_placeOf_136 : ∀ w ∈ ([.methodLink RX12 136 yX12_firstOf, .instanceMethod yX12_firstOf, .selects yX12_firstOf.cls yX12_firstOf yX12_firstOf, .initialized yX12_firstOf.cls, .code yX12_firstOf cX12_firstOf 3 (some .int)] : List Cond), w ∈ lw_good := List.forall_mem_cons.mpr ⟨mgd 2029 (by decide +kernel) (by decide +kernel), List.forall_mem_cons.mpr ⟨mgd 2031 (by decide +kernel) (by decide +kernel), List.forall_mem_cons.mpr ⟨mgd 60 (by decide +kernel) (by decide +kernel), List.forall_mem_cons.mpr ⟨mgd 138 (by decide +kernel) (by decide +kernel), List.forall_mem_cons.mpr ⟨mgd 2032 (by decide +kernel) (by decide +kernel), fun _ h => absurd h List.not_mem_nil⟩⟩⟩⟩⟩
theorem vX12_placeOf_139 : ∀ w ∈ ([.methodLink RX12 139 yX12_inRow, .instanceMethod yX12_inRow, .selects yX12_inRow.cls yX12_inRow yX12_inRow, .initialized yX12_inRow.cls, .code yX12_inRow cX12_inRow 3 (some .int)] : List Cond), w ∈ lw_good := List.forall_mem_cons.mpr ⟨mgd 2033 (by decide +kernel) (by decide +kernel), List.forall_mem_cons.mpr ⟨mgd 2035 (by decide +kernel) (by decide +kernel), List.forall_mem_cons.mpr ⟨mgd 61 (by decide +kernel) (by decide +kernel), List.forall_mem_cons.mpr ⟨mgd 138 (by decide +kernel) (by decide +kernel), List.forall_mem_cons.mpr ⟨mgd 2036 (by decide +kernel) (by decide +kernel), fun _ h => absurd h List.not_mem_nil⟩⟩⟩⟩⟩
theorem vX12_placeOf_128 : ∀ w ∈ ([.methodLink RX12 128 yX12_childrenOf, .instanceMethod yX12_childrenOf, .selects yX12_childrenOf.cls yX12_childrenOf yX12_childrenOf, .initialized yX12_childrenOf.cls, .code yX12_childrenOf cX12_childrenOf 3 (some .int)] : List Cond), w ∈ lw_good := List.forall_mem_cons.mpr ⟨mgd 2017 (by decide +kernel) (by decide +kernel), List.forall_mem_cons.mpr ⟨mgd 2019 (by decide +kernel) (by decide +kernel), List.forall_mem_cons.mpr ⟨mgd 58 (by decide +kernel) (by decide +kernel), List.forall_mem_cons.mpr ⟨mgd 138 (by decide +kernel) (by decide +kernel), List.forall_mem_cons.mpr ⟨mgd 2020 (by decide +kernel) (by decide +kernel), fun _ h => absurd h List.not_mem_nil⟩⟩⟩⟩⟩
theorem vX12_placeOf_142 : ∀ w ∈ ([.methodLink RX12 142 yX12_lastOf, .instanceMethod yX12_lastOf, .selects yX12_lastOf.cls yX12_lastOf yX12_lastOf, .initialized yX12_lastOf.cls, .code yX12_lastOf cX12_lastOf 3 (some .int)] : List Cond), w ∈ lw_good := List.forall_mem_cons.mpr ⟨mgd 2037 (by decide +kernel) (by decide +kernel), List.forall_mem_cons.mpr ⟨mgd 2039 (by decide +kernel) (by decide +kernel), List.forall_mem_cons.mpr ⟨mgd 62 (by decide +kernel) (by decide +kernel), List.forall_mem_cons.mpr ⟨mgd 138 (by decide +kernel) (by decide +kernel), List.forall_mem_cons.mpr ⟨mgd 2040 (by decide +kernel) (by decide +kernel), fun _ h => absurd h List.not_mem_nil⟩⟩⟩⟩⟩
set_option maxRecDepth 100000 in
set_option maxHeartbeats 2000000 in
theorem c_rpo (l : Launch) : ∀ (g : Nat) (e : Nat) (F : Nat → Nat × Nat) (i : Nat) (y : Nat → Nat) (G : Gr) (T : Tr) (lf : Nat) (rg : Option Nat) (U V : List Nat), Ct l yX12_placeOf cX12_placeOf 5 (some .int) 1 22 (sp_rpo g e F i y G T lf rg U V) := by
  intro g e F i y G T lf rg U V
  refine Ct.of (fX12, nX12, aX12, iX12, lX12, [(136, 0, 2, 1, T_rfo), (139, 0, 2, 1, T_rir), (128, 0, 3, 1, T_rch), (142, 0, 2, 1, T_rlo)], qX12, gX12, []) false tX12_placeOf (fun _ S => look [(58, ([0,1,2,3,4], I_po g e lf rg G T S))]) (by decide) (by decide) kX12_placeOf ⟨_, _, rfl⟩ fX12_ok nX12_ok aX12_ok iX12_ok lX12_ok (fun p e R s m args below meth c Q D cy z r A C hR1 hR2 => List.forall_mem_cons.mpr ⟨cOK_use (fun _ _ _ _ _ _ _ _ h => let ⟨sp, h1, h2, h3⟩ := u_rfo l _ _ _ _ _ _ _ _ h; ⟨sp, cOK_V C h1 vX12_placeOf_136 ⟨by decide, by decide, by decide +kernel⟩ ⟨by rw [hR1]; decide, by rw [hR2]; decide⟩ (k := 13) (T := TX12) (N := 27) rfl (by decide) h2, h3⟩), List.forall_mem_cons.mpr ⟨cOK_use (fun _ _ _ _ _ _ _ _ h => let ⟨sp, h1, h2, h3⟩ := u_rir l _ _ _ _ _ _ _ _ h; ⟨sp, cOK_V C h1 vX12_placeOf_139 ⟨by decide, by decide, by decide +kernel⟩ ⟨by rw [hR1]; decide, by rw [hR2]; decide⟩ (k := 13) (T := TX12) (N := 27) rfl (by decide) h2, h3⟩), List.forall_mem_cons.mpr ⟨cOK_use (fun _ _ _ _ _ _ _ _ h => let ⟨sp, h1, h2, h3⟩ := u_rch l _ _ _ _ _ _ _ _ h; ⟨sp, cOK_V C h1 vX12_placeOf_128 ⟨by decide, by decide, by decide +kernel⟩ ⟨by rw [hR1]; decide, by rw [hR2]; decide⟩ (k := 13) (T := TX12) (N := 27) rfl (by decide) h2, h3⟩), List.forall_mem_cons.mpr ⟨cOK_use (fun _ _ _ _ _ _ _ _ h => let ⟨sp, h1, h2, h3⟩ := u_rlo l _ _ _ _ _ _ _ _ h; ⟨sp, cOK_V C h1 vX12_placeOf_142 ⟨by decide, by decide, by decide +kernel⟩ ⟨by rw [hR1]; decide, by rw [hR2]; decide⟩ (k := 13) (T := TX12) (N := 27) rfl (by decide) h2, h3⟩), fun _ h => absurd h List.not_mem_nil⟩⟩⟩⟩) qX12_ok gX12_ok rfl ?_ ?_
  · rintro _ S ⟨rfl, hp⟩
    refine ⟨Nat.le_of_ble_eq_true rfl, 300, ?_⟩
    show (isO S 13 g ∧ (pa (mR S 1312 g) fun a_1 => ∃ v_2 : Int32, (isO S 17 a_1 ∧ inR S a_1 (nI e) ∧ v_2 = eI S a_1 (nI e).toNatClampNeg ∨ a_1 = (mQ S).1 ∧ vp_in (nI e) 16 ∧ v_2 = mRem (nI e).toNatClampNeg) ∧ (isO S 13 g ∧ (pa (mR S 1316 g) fun a_3 => (isO S 16 a_3 ∨ isO S 20 a_3) ∧ inR S a_3 (nI e) ∧ ((¬ (eI S a_3 (nI e).toNatClampNeg) = 0 → (0 = 0 ∧ (∃ (F_4 : Nat → Nat × Nat) (i_5 : Nat) (y_6 : Nat → Nat) (G_7 : Gr) (T_8 : Tr) (x_9 : Nat) (bz_10 : Bool), (g = y_6 0 ∧ RG S F_4 i_5 y_6 G_7 T_8 ∧ v_2 = ndI x_9 ∧ (1 : Int32) = bI bz_10 ∧ x_9 ≤ G_7.n) ∧ 0 ≤ 0 ∧ 0 ≤ 0 ∧ ((∃ k1, I_po g e lf rg G T S k1 [(0, .inr (.inr (some g))), (1, .inl (nI e)), (2, .inl v_2), (3, .inl (-1 : Int32)), (4, .inl (pnI (chO T_8 x_9 bz_10)))] [] S 0 0))))) ∧ ((eI S a_3 (nI e).toNatClampNeg) = 0 → (isO S 13 g ∧ (pa (mR S 1313 g) fun a_12 => ∃ v_13 : Int32, (isO S 17 a_12 ∧ inR S a_12 (nI e) ∧ v_13 = eI S a_12 (nI e).toNatClampNeg ∨ a_12 = (mQ S).1 ∧ vp_in (nI e) 16 ∧ v_13 = mRem (nI e).toNatClampNeg) ∧ ((v_13 < 0 → (0 = 0 ∧ (∃ (nd_14 : Nat), v_2 = nI nd_14 ∧ (∃ (F_15 : Nat → Nat × Nat) (i_16 : Nat) (y_17 : Nat → Nat) (G_18 : Gr) (T_19 : Tr) (pz_20 : Nat), (g = y_17 0 ∧ RG S F_15 i_16 y_17 G_18 T_19 ∧ pz_20 < T_19.od.length ∧ T_19.od.getD pz_20 0 = nd_14 + 1) ∧ 0 ≤ 0 ∧ 0 ≤ 0 ∧ ((([] : List MV) = [] ∧ mret (some .int) (sp_rpo g e F i y G T lf rg U V) [.inr (.inr (some g)), .inl (nI e)] S (some (.inl (nI pz_20))) S 0 0)))))) ∧ (¬ v_13 < 0 → (isO S 13 g ∧ (pa (mR S 1313 g) fun a_22 => ∃ v_23 : Int32, (isO S 17 a_22 ∧ inR S a_22 (nI e) ∧ v_23 = eI S a_22 (nI e).toNatClampNeg ∨ a_22 = (mQ S).1 ∧ vp_in (nI e) 16 ∧ v_23 = mRem (nI e).toNatClampNeg) ∧ (0 = 0 ∧ (∃ (nd_24 : Nat), v_23 = nI nd_24 ∧ (∃ (F_25 : Nat → Nat × Nat) (i_26 : Nat) (y_27 : Nat → Nat) (G_28 : Gr) (T_29 : Tr) (n_30 : Nat) (A_31 : List Nat), (g = y_27 0 ∧ RG S F_25 i_26 y_27 G_28 T_29 ∧ nd_24 < G_28.n ∧ RpT T_29 n_30 (T_29.fl (nd_24 + 1)) A_31) ∧ 0 ≤ 0 ∧ 0 ≤ 0 ∧ ((0 = 0 ∧ (∃ (nd_33 : Nat), nI (A_31.headD (nd_24 + 1) - 1) = nI nd_33 ∧ (∃ (F_34 : Nat → Nat × Nat) (i_35 : Nat) (y_36 : Nat → Nat) (G_37 : Gr) (T_38 : Tr) (pz_39 : Nat), (g = y_36 0 ∧ RG S F_34 i_35 y_36 G_37 T_38 ∧ pz_39 < T_38.od.length ∧ T_38.od.getD pz_39 0 = nd_33 + 1) ∧ 0 ≤ 0 ∧ 0 ≤ 0 ∧ ((([] : List MV) = [] ∧ mret (some .int) (sp_rpo g e F i y G T lf rg U V) [.inr (.inr (some g)), .inl (nI e)] S (some (.inl (nI pz_39))) S 0 0)))))))))))))))))))))
    obtain ⟨rfl, h, he, hne, hT, hP, hE, h13, hU, hV, hW⟩ := hp
    have hnm := h.nm
    have ho := hgT_od G T e lf rg
    have ce : (nI e).toNatClampNeg = e := nI_clamp (by omega)
    have hP' : hnP (hgT G T e lf rg) lf rg := by rw [hnP, ho]; exact hP
    refine ⟨(h 0).1, rdI (x := nI e) (v := ndI (rg.getD lf)) h.r12.1 h.r12.2.1 (inRn h.r12.2.2 (by omega) (by decide)) (by rw [ce]; exact hE.1) ⟨(h 0).1, pa_i h.r16.1 ⟨Or.inr h.r16.2.1, inRn h.r16.2.2 (by omega) (by decide), ?_⟩⟩⟩
    have e16 : eI S (y 16) (nI e).toNatClampNeg = bI rg.isNone := by rw [ce]; exact hE.2
    rw [e16]
    cases rg with
    | none =>
      refine ⟨fun _ => ⟨rfl, F, i, y, G, hgT G T e lf none, lf, true, ⟨rfl, h, rfl, rfl, hP'.le h⟩, Nat.le_refl _, Nat.le_refl _, ?_⟩, fun w => absurd w (by decide)⟩
      rw [chO, if_pos (Or.inr rfl)]
      cases hx : lstW (lessK G e) T.sb T.od.length none (T.fr lf) with
      | none =>
        have eT : hgT G T e lf none = (T.fl, updO T.fr lf (some (e + 1)), updO T.sb (e + 1) (T.fr lf), updN T.pr (e + 1) lf, T.od) := Tr.put_n hx
        have e1 : (hgT G T e lf none).fr lf = some (e + 1) := by rw [eT]; exact updO_s
        rw [e1]
        exact ⟨0, none, some (e + 1), rfl, Or.inl ⟨rfl, rfl, hx.symm⟩, rfl, rfl, rfl, rfl, rfl⟩
      | some x =>
        have eT : hgT G T e lf none = (T.fl, T.fr, updO (updO T.sb (e + 1) (T.sb x)) x (some (e + 1)), updN T.pr (e + 1) lf, T.od) := Tr.put_s (rg := none) hx
        have e1 : (hgT G T e lf none).fr lf = T.fr lf := by rw [eT]; rfl
        rw [e1]
        obtain ⟨P, A, R, p1, p2, -⟩ := Tr.site (rg := none) hT hP.1 hP.2
        have nd := hT.2.1
        rw [p1, List.nodup_append, List.nodup_append] at nd
        have p2 : Rp T.fl T.fr T.sb T.od.length (T.fr lf) A := p2
        have sA : ∀ w, w ∈ A → w ∈ T.od := fun w hw => by rw [p1]; simp [hw]
        cases hq : T.fr lf with
        | none =>
          rw [hq] at hx
          have : lstW (lessK G e) T.sb T.od.length none none = none := by cases T.od.length <;> rfl
          rw [this] at hx; cases hx
        | some z =>
          rw [hq] at hx p2
          cases hn : T.od.length with
          | zero => rw [hn] at p2; exact p2.elim
          | succ t =>
            rw [hn] at hx p2
            have hz : lessK G e z = true := by
              by_cases c : lessK G e z = true
              · exact c
              · rw [lstW, if_neg c] at hx; cases hx
            exact ⟨t + 1, none, some z, rfl, Or.inr ⟨t, z, A, rfl, rfl, p2, nd.1.2.1, sA, hz, by rw [hn, hq]⟩, rfl, rfl, rfl, rfl, rfl⟩
    | some r =>
      refine ⟨fun w => absurd rfl w, fun _ => ⟨(h 0).1, rdI (x := nI e) (v := pnI ((hgT G T e lf (some r)).sb (e + 1))) h.r13.1 h.r13.2.1 (inRn h.r13.2.2 (by omega) (by decide)) (by rw [ce]; exact h13) ?_⟩⟩
      obtain ⟨m, Q, R, hQ, hVe⟩ := hV r rfl
      obtain ⟨x, rfl, hx, -⟩ := h.ond (by rw [ho]; exact hP.2 r rfl)
      cases hs : (hgT G T e lf (some (x + 1))).sb (e + 1) with
      | none =>
        rw [hs] at hQ
        have q0 := hQ.no
        subst q0
        have e1 : (hgT G T e lf (some (x + 1))).od = U ++ (x + 1) :: R := by rw [ho, hU, hVe]; rfl
        have e2 := at_app U R (x + 1)
        exact ⟨fun _ => ⟨rfl, x, rfl, F, i, y, G, hgT G T e lf (some (x + 1)), U.length, ⟨rfl, h, by rw [e1]; exact e2.1, by rw [e1]; exact e2.2⟩, Nat.le_refl _, Nat.le_refl _, rfl, trivial, ⟨rfl, rfl⟩, Nat.le_refl _, Nat.le_refl _⟩, fun w => absurd (by decide : (-1 : Int32) < 0) w⟩
      | some z =>
        rw [hs] at hQ h13
        obtain ⟨m', B, C, D, rfl, r1, r2, r3, rfl, r5⟩ := hQ.nd
        obtain ⟨z', rfl, hz, -⟩ := h.ond r5
        obtain ⟨R', hR'⟩ := headD_app B ((C ++ D) ++ (x + 1) :: R) (z' + 1)
        have e1 : (hgT G T e lf (some (x + 1))).od = U ++ B.headD (z' + 1) :: R' := by rw [ho, hU, hVe, ← hR']; simp
        have e2 := at_app U R' (B.headD (z' + 1))
        obtain ⟨w', hw', -⟩ := h.ond (x := B.headD (z' + 1)) (by rw [e1]; simp)
        exact ⟨fun w => absurd w (nI_pos (show z' < 2147483648 by omega)), fun _ => ⟨(h 0).1, rdI (x := nI e) (v := nI z') h.r13.1 h.r13.2.1 (inRn h.r13.2.2 (by omega) (by decide)) (by rw [ce]; exact h13) ⟨rfl, z', rfl, F, i, y, G, hgT G T e lf (some (x + 1)), m', B, ⟨rfl, h, hz, r1⟩, Nat.le_refl _, Nat.le_refl _, rfl, B.headD (z' + 1) - 1, rfl, F, i, y, G, hgT G T e lf (some (x + 1)), U.length, ⟨rfl, h, by rw [e1]; exact e2.1, by rw [e1, e2.2]; omega⟩, Nat.le_refl _, Nat.le_refl _, rfl, trivial, ⟨rfl, rfl⟩, Nat.le_refl _, Nat.le_refl _⟩⟩⟩
  · intro av S hpre pc I hI k lo st S1 cs sl h
    obtain ⟨rfl, hp⟩ := hpre
    have hm := look_in hI
    rw [List.mem_singleton] at hm
    cases hm
    obtain ⟨b, q, hr, hq, rfl, rfl, rfl, rfl, rfl⟩ := h
    refine ⟨300, ?_⟩
    show (((pnI q) = (nI e) → (((pnI b) < 0 → ((0 ≤ (ndI lf) → (0 = 0 ∧ (∃ (nd_1 : Nat), ndI lf = nI nd_1 ∧ (∃ (F_2 : Nat → Nat × Nat) (i_3 : Nat) (y_4 : Nat → Nat) (G_5 : Gr) (T_6 : Tr) (pz_7 : Nat), (g = y_4 0 ∧ RG S F_2 i_3 y_4 G_5 T_6 ∧ pz_7 < T_6.od.length ∧ T_6.od.getD pz_7 0 = nd_1 + 1) ∧ 0 ≤ 0 ∧ 0 ≤ 0 ∧ ((([] : List MV) = [] ∧ mret (some .int) (sp_rpo g e F i y G T lf rg U V) [.inr (.inr (some g)), .inl (nI e)] S (some (.inl ((nI pz_7) + (1 : Int32)))) S 0 0)))))) ∧ (¬ 0 ≤ (ndI lf) → (([] : List MV) = [] ∧ mret (some .int) (sp_rpo g e F i y G T lf rg U V) [.inr (.inr (some g)), .inl (nI e)] S (some (.inl (0 : Int32))) S 0 0)))) ∧ (¬ (pnI b) < 0 → (0 = 0 ∧ (∃ (nd_9 : Nat), pnI b = nI nd_9 ∧ (∃ (F_10 : Nat → Nat × Nat) (i_11 : Nat) (y_12 : Nat → Nat) (G_13 : Gr) (T_14 : Tr) (n_15 : Nat) (A_16 : List Nat), (g = y_12 0 ∧ RG S F_10 i_11 y_12 G_13 T_14 ∧ nd_9 < G_13.n ∧ RpT T_14 n_15 (T_14.fr (nd_9 + 1)) A_16) ∧ 0 ≤ 0 ∧ 0 ≤ 0 ∧ ((0 = 0 ∧ (∃ (nd_18 : Nat), nI (A_16.getLastD (nd_9 + 1) - 1) = nI nd_18 ∧ (∃ (F_19 : Nat → Nat × Nat) (i_20 : Nat) (y_21 : Nat → Nat) (G_22 : Gr) (T_23 : Tr) (pz_24 : Nat), (g = y_21 0 ∧ RG S F_19 i_20 y_21 G_22 T_23 ∧ pz_24 < T_23.od.length ∧ T_23.od.getD pz_24 0 = nd_18 + 1) ∧ 0 ≤ 0 ∧ 0 ≤ 0 ∧ ((([] : List MV) = [] ∧ mret (some .int) (sp_rpo g e F i y G T lf rg U V) [.inr (.inr (some g)), .inl (nI e)] S (some (.inl ((nI pz_24) + (1 : Int32)))) S 0 0)))))))))))) ∧ (¬ (pnI q) = (nI e) → (isO S 13 g ∧ (pa (mR S 1313 g) fun a_26 => ∃ v_27 : Int32, (isO S 17 a_26 ∧ inR S a_26 (pnI q) ∧ v_27 = eI S a_26 (pnI q).toNatClampNeg ∨ a_26 = (mQ S).1 ∧ vp_in (pnI q) 16 ∧ v_27 = mRem (pnI q).toNatClampNeg) ∧ (∃ k1, k1 < k ∧ I_po g e lf rg G T S k1 [(0, .inr (.inr (some g))), (1, .inl (nI e)), (2, .inl (ndI lf)), (3, .inl (pnI q)), (4, .inl v_27)] [] S 0 0)))))
    obtain ⟨rfl, h, he, hne, hT, hP, hE, h13, hU, hV, hW⟩ := hp
    subst hr
    have hnm := h.nm
    have ho := hgT_od G T e lf none
    obtain ⟨hW1, hW2⟩ := hW rfl
    have hW1 : lstW (lessK G e) T.sb T.od.length none (T.fr lf) = none → U.getLastD 0 = lf := hW1
    have hW2 : ∀ x, lstW (lessK G e) T.sb T.od.length none (T.fr lf) = some x → ∃ m L B, RpT (hgT G T e lf none) m ((hgT G T e lf none).fr x) B ∧ U = L ++ x :: B := hW2
    rcases hq with ⟨rfl, rfl, hbq⟩ | ⟨t, z, A, rfl, rfl, hA, hAn, hAO, hlz, hl⟩
    · refine ⟨fun _ => ?_, fun w => absurd rfl w⟩
      cases b with
      | none =>
        have hl := hW1 hbq.symm
        refine ⟨fun _ => ?_, fun w => absurd (by decide : (-1 : Int32) < 0) w⟩
        rcases snoc_cases U with u0 | ⟨C, w, u0⟩
        · subst u0
          have hl : 0 = lf := hl
          subst hl
          exact ⟨fun w => absurd w (by decide), fun _ => ⟨rfl, trivial, ⟨rfl, rfl⟩, Nat.le_refl _, Nat.le_refl _⟩⟩
        · rw [u0, List.getLastD_concat] at hl
          subst hl
          have e1 : (hgT G T e w none).od = C ++ w :: V := by rw [ho, hU, u0]; simp
          obtain ⟨x, rfl, hx, -⟩ := h.ond (x := w) (by rw [e1]; simp)
          have e2 := at_app C V (x + 1)
          have e3 : ndI (x + 1) = nI x := rfl
          rw [e3]
          exact ⟨fun _ => ⟨rfl, x, rfl, F, i, y, G, hgT G T e (x + 1) none, C.length, ⟨rfl, h, by rw [e1]; exact e2.1, by rw [e1]; exact e2.2⟩, Nat.le_refl _, Nat.le_refl _, rfl, trivial, ⟨by rw [u0, List.length_append, nI_1]; rfl, rfl⟩, Nat.le_refl _, Nat.le_refl _⟩, fun w => absurd (nI_pos' (show x < 2147483648 by omega)) w⟩
      | some x =>
        obtain ⟨m, L, B, hB, hUe⟩ := hW2 x hbq.symm
        obtain ⟨C, hC⟩ := lastD_split x B
        have u0 : U = (L ++ C) ++ [B.getLastD x] := by rw [hUe, hC]; simp
        have e1 : (hgT G T e lf none).od = (L ++ C) ++ B.getLastD x :: V := by rw [ho, hU, u0]; simp
        have e2 := at_app (L ++ C) V (B.getLastD x)
        have e5 : U.length = (L ++ C).length + 1 := by rw [u0, List.length_append]; rfl
        obtain ⟨x', rfl, hx, -⟩ := h.ond (x := x) (by rw [ho, hU, hUe]; simp)
        obtain ⟨w', hw', -⟩ := h.ond (x := B.getLastD (x' + 1)) (by rw [e1]; simp)
        exact ⟨fun w => absurd w (nI_pos (show x' < 2147483648 by omega)), fun _ => ⟨rfl, x', rfl, F, i, y, G, hgT G T e lf none, m, B, ⟨rfl, h, hx, hB⟩, Nat.le_refl _, Nat.le_refl _, rfl, B.getLastD (x' + 1) - 1, rfl, F, i, y, G, hgT G T e lf none, (L ++ C).length, ⟨rfl, h, by rw [e1]; exact e2.1, by rw [e1, e2.2]; omega⟩, Nat.le_refl _, Nat.le_refl _, rfl, trivial, ⟨by rw [e5, nI_1], rfl⟩, Nat.le_refl _, Nat.le_refl _⟩⟩
    · obtain ⟨B, C, D, a, b', c, hAe⟩ := hA
      have hzO : z ∈ T.od := hAO z (by rw [hAe]; simp)
      obtain ⟨z', rfl, hz, -⟩ := h.ond (x := z) (by rw [ho]; exact hzO)
      have hze : z' ≠ e := fun w => hne (w ▸ hzO)
      rw [hAe] at hAn
      simp only [List.nodup_append, List.nodup_cons, List.mem_append, List.mem_cons, not_or] at hAn
      rw [lstW, hlz, if_pos rfl, lstW_or] at hl
      refine ⟨fun w => absurd ((nI_eq (show z' < 2147483648 by omega) (by omega)).1 w) hze, fun _ => ⟨(h 0).1, h.g13 (e := z') (by rw [ho]; exact hzO) ?_⟩⟩
      cases h9 : lstW (lessK G e) T.sb t none (T.sb (z' + 1)) with
      | none =>
        rw [h9] at hl
        have hl : some (z' + 1) = lstW (lessK G e) T.sb T.od.length none (T.fr lf) := hl
        have eT : hgT G T e lf none = (T.fl, T.fr, updO (updO T.sb (e + 1) (T.sb (z' + 1))) (z' + 1) (some (e + 1)), updN T.pr (e + 1) lf, T.od) := Tr.put_s (rg := none) hl.symm
        have e1 : (hgT G T e lf none).sb (z' + 1) = some (e + 1) := by rw [eT]; exact updO_s
        rw [e1]
        exact ⟨0, by omega, some (z' + 1), some (e + 1), rfl, Or.inl ⟨rfl, rfl, hl⟩, rfl, rfl, rfl, rfl, rfl⟩
      | some x =>
        rw [h9] at hl
        have hl : some x = lstW (lessK G e) T.sb T.od.length none (T.fr lf) := hl
        have xD := lstW_mem c h9
        have hxz : z' + 1 ≠ x := fun w => hAn.2.1.1.2 (w ▸ xD)
        have eT : hgT G T e lf none = (T.fl, T.fr, updO (updO T.sb (e + 1) (T.sb x)) x (some (e + 1)), updN T.pr (e + 1) lf, T.od) := Tr.put_s (rg := none) hl.symm
        have e1 : (hgT G T e lf none).sb (z' + 1) = T.sb (z' + 1) := by
          rw [eT]
          show updO (updO T.sb (e + 1) (T.sb x)) x (some (e + 1)) (z' + 1) = _
          rw [updO_o hxz, updO_o (fun w => hze (by omega))]
        rw [e1]
        cases hs : T.sb (z' + 1) with
        | none =>
          rw [hs] at h9
          have : lstW (lessK G e) T.sb t none none = none := by cases t <;> rfl
          rw [this] at h9; cases h9
        | some w =>
          rw [hs] at h9 c
          cases t with
          | zero => exact c.elim
          | succ t' =>
            have hlw : lessK G e w = true := by
              by_cases c : lessK G e w = true
              · exact c
              · rw [lstW, if_neg c] at h9; cases h9
            exact ⟨t' + 1, by omega, some (z' + 1), some w, rfl, Or.inr ⟨t', w, D, rfl, rfl, c, hAn.2.1.2.2.1, fun v hv => hAO v (by rw [hAe]; simp [hv]), hlw, by rw [lstW_or, h9]; exact hl⟩, rfl, rfl, rfl, rfl, rfl⟩
theorem u_rpo (l : Launch) : Us l yX12_placeOf cX12_placeOf 5 (some .int) 1 22 13 T_rpo := by
  intro Rc Rs av S cs sl K Kx h
  unfold T_rpo at h
  split at h
  · rename_i g_o e_v
    obtain ⟨g, rfl, h_1⟩ := pa_of h
    obtain ⟨e, rfl, h_2⟩ := h_1
    obtain ⟨F, i, y, G, T, lf, rg, U, V, hp, hc, hs, hk⟩ := h_2
    refine ⟨(sp_rpo g e F i y G T lf rg U V), c_rpo l g e F i y G T lf rg U V, fun _ _ h9 => ⟨_, _, h9.1, (h9.2.1 ▸ (h9.2.2.1 0).1)⟩, ⟨rfl, hp⟩, hc, hs, fun v9 S' h8 => by
      obtain ⟨h7, h8⟩ := h8
      cases h7
      subst h8
      exact hk, fun _ _ q => q.elim⟩
  · exact h.elim
