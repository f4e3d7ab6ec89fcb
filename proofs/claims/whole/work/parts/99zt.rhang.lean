/-! ===== The reference's graph: hang ===== -/
/-- the tree with a new node hung, and the order of before -/
def hgT (G : Gr) (T : Tr) (e lf : Nat) (rg : Option Nat) : Tr := T.put (lessK G e) lf rg (e + 1) T.od
/-- rows 12 and 16 tell where it hangs -/
def hgE (S : MM) (y : Nat → Nat) (e lf : Nat) (rg : Option Nat) : Prop := eI S (y 12) e = ndI (rg.getD lf) ∧ eI S (y 16) e = bI rg.isNone
def hnP (T : Tr) (lf : Nat) (rg : Option Nat) : Prop := (lf = 0 ∨ lf ∈ T.od) ∧ ∀ r, rg = some r → r ∈ T.od
theorem hnP.row {T : Tr} {lf : Nat} {rg : Option Nat} (h : hnP T lf rg) (ht : T.ok) : chO T (rg.getD lf) rg.isNone = T.row lf rg := by
  cases rg with
  | none => exact if_pos (Or.inr rfl)
  | some r =>
    refine if_neg (fun z => ?_)
    rcases z with z | z
    · exact ht.2.2.1 (by have := h.2 r rfl; rw [show r = 0 from z] at this; exact this)
    · cases z
theorem hnP.rp {T : Tr} {lf : Nat} {rg : Option Nat} (h : hnP T lf rg) (ht : T.ok) : ∃ A, RpT T T.od.length (T.row lf rg) A := by
  obtain ⟨P, F, R, h1, h2, -⟩ := Tr.site ht h.1 h.2
  exact ⟨F, h2, fun z hz => by rw [h1]; simp [hz]⟩
def I_hg1 (g e lf : Nat) (rg : Option Nat) (G : Gr) (T : Tr) (S : MM) (k : Nat) : KT := fun lo st S1 cs sl => ∃ t q b A, k = t + 1 ∧ RpT T t q A ∧ lstW (lessK G e) T.sb t b q = lstW (lessK G e) T.sb T.od.length none (T.row lf rg) ∧ (∀ x, b = some x → x ∈ T.od) ∧ lo = [(0, .inr (.inr (some g))), (1, .inl (nI e)), (2, .inl (ndI (rg.getD lf))), (3, .inl (pnI (T.row lf rg))), (4, .inl (pnI b)), (5, .inl (pnI q))] ∧ st = [] ∧ S = S1 ∧ cs = 0 ∧ sl = 0
def I_hg2 (g e lf : Nat) (rg : Option Nat) (G : Gr) (T : Tr) (S : MM) (k : Nat) : KT := fun lo st S1 cs sl => ∃ b, k = 0 ∧ b = lstW (lessK G e) T.sb T.od.length none (T.row lf rg) ∧ (∀ x, b = some x → x ∈ T.od) ∧ lo = [(0, .inr (.inr (some g))), (1, .inl (nI e)), (2, .inl (ndI (rg.getD lf))), (3, .inl (pnI (T.row lf rg))), (4, .inl (pnI b))] ∧ st = [] ∧ S = S1 ∧ cs = 0 ∧ sl = 0
def hgQ (S S' : MM) (F : Nat → Nat × Nat) (i : Nat) (y : Nat → Nat) (G : Gr) (T : Tr) (e lf : Nat) (rg : Option Nat) : Prop := RG S' F i y G (hgT G T e lf rg) ∧ eI S' (y 13) e = pnI ((hgT G T e lf rg).sb (e + 1)) ∧ Keep (gO F i) S S' ∧ mI S' 1326 (y 0) = mI S 1326 (y 0) ∧ ∀ k, rwK k → k ≠ 13 → k ≠ 14 → k ≠ 15 → eI S' (y k) = eI S (y k)
theorem Tr.put_s {T : Tr} {lt : Nat → Bool} {lf e x : Nat} {rg : Option Nat} {O : List Nat} (h : lstW lt T.sb T.od.length none (T.row lf rg) = some x) : T.put lt lf rg e O = (T.fl, T.fr, updO (updO T.sb e (T.sb x)) x (some e), updN T.pr e (rg.getD lf), O) := by
  unfold Tr.put; rw [h]
theorem Tr.put_n {T : Tr} {lt : Nat → Bool} {lf e : Nat} {O : List Nat} (h : lstW lt T.sb T.od.length none (T.row lf none) = none) : T.put lt lf none e O = (T.fl, updO T.fr lf (some e), updO T.sb e (T.fr lf), updN T.pr e lf, O) := by
  unfold Tr.put; rw [h]
theorem Tr.put_l {T : Tr} {lt : Nat → Bool} {lf e r : Nat} {O : List Nat} (h : lstW lt T.sb T.od.length none (T.row lf (some r)) = none) : T.put lt lf (some r) e O = (updO T.fl r (some e), T.fr, updO T.sb e (T.fl r), updN T.pr e r, O) := by
  unfold Tr.put; rw [h]
theorem hgQ.mk {S S' : MM} {F : Nat → Nat × Nat} {i : Nat} {y : Nat → Nat} {G : Gr} {T : Tr} {e lf : Nat} {rg : Option Nat} {fi' : Nat → Int32} {fe' : Nat → Nat → Int32} (h : RG S F i y G T) (h1 : RS S' F i y fi' fe' (fun s => mN S (y (100 + s)))) (hK : Keep (gO F i) S S') (ho : (hgT G T e lf rg).od = T.od) (c17 : fi' 17 = pnI ((hgT G T e lf rg).fr 0)) (ck : ∀ k, k ≠ 17 → fi' k = mI S (1300 + k) (y 0)) (q13 : ∀ x, x ∈ T.od → fe' 13 (x - 1) = pnI ((hgT G T e lf rg).sb x)) (q13e : fe' 13 e = pnI ((hgT G T e lf rg).sb (e + 1))) (q14 : ∀ k, k < G.n → fe' 14 k = pnI ((hgT G T e lf rg).fl (k + 1)) ∧ fe' 15 k = pnI ((hgT G T e lf rg).fr (k + 1))) (q : ∀ k, k ≠ 13 → k ≠ 14 → k ≠ 15 → fe' k = eI S (y k)) : hgQ S S' F i y G T e lf rg :=
  ⟨h1.rg (RGm.tree h.rm ho c17 ck q13 q14 q), by rw [h1.e (k := 13) (Or.inl (by decide))]; exact q13e, hK, (h1.f 26).trans (ck 26 (by decide)), fun k hk a b c => by rw [h1.e hk]; exact q k a b c⟩
theorem RG.ode {S : MM} {F : Nat → Nat × Nat} {i : Nat} {y : Nat → Nat} {G : Gr} {T : Tr} (h : RG S F i y G T) {e x : Nat} (he : e + 1 ∉ T.od) (hx : x ∈ T.od) : x - 1 ≠ e ∧ x ≠ e + 1 ∧ 0 < x := by
  obtain ⟨k, rfl, -⟩ := h.ond hx
  refine ⟨fun z => he ?_, fun z => he (z ▸ hx), Nat.succ_pos _⟩
  rw [← z]; exact hx
theorem hnP.le {S : MM} {F : Nat → Nat × Nat} {i : Nat} {y : Nat → Nat} {G : Gr} {T : Tr} {lf : Nat} {rg : Option Nat} (hP : hnP T lf rg) (h : RG S F i y G T) : rg.getD lf ≤ G.n := by
  cases rg with
  | none =>
    rcases hP.1 with z | z
    · rw [z]; exact Nat.zero_le _
    · obtain ⟨k, rfl, hk, -⟩ := h.ond z
      exact hk
  | some r =>
    obtain ⟨k, rfl, hk, -⟩ := h.ond (hP.2 r rfl)
    exact hk
def T_rhg : TR := fun Rc Rs av S cs sl K _Kx => match av with
  | [.inr (.inr g_o), .inl e_v] => pa g_o fun g => (∃ (e : Nat), e_v = nI e ∧ (∃ (F : Nat → Nat × Nat) (i : Nat) (y : Nat → Nat) (G : Gr) (T : Tr) (lf : Nat) (rg : Option Nat), (g = y 0 ∧ RG S F i y G T ∧ e < G.n ∧ e + 1 ∉ T.od ∧ T.ok ∧ hnP T lf rg ∧ hgE S y e lf rg) ∧ cs ≤ Rc ∧ sl ≤ Rs ∧ (∀ (S' : MM), (hgQ S S' F i y G T e lf rg) → K none S' cs sl)))
  | _ => False
def sp_rhg (g : Nat) (e : Nat) (F : Nat → Nat × Nat) (i : Nat) (y : Nat → Nat) (G : Gr) (T : Tr) (lf : Nat) (rg : Option Nat) : Sp := (fun av S => av = [.inr (.inr (some g)), .inl (nI e)] ∧ (g = y 0 ∧ RG S F i y G T ∧ e < G.n ∧ e + 1 ∉ T.od ∧ T.ok ∧ hnP T lf rg ∧ hgE S y e lf rg), fun _ S => 0, fun _ S => 0, fun _ S rv S' => rv = none ∧ (hgQ S S' F i y G T e lf rg), fun _ _ _ _ => False)
def tX12_hang : CD := [(0, .aload_n 0), (1, .getfield 44), (4, .iload_n 1), (5, .iaload), (6, .istore_n 2), (7, .aload_n 0), (8, .iload_n 2), (9, .aload_n 0), (10, .getfield 56), (13, .iload_n 1), (14, .baload), (15, .invokevirtual 128), (18, .istore_n 3), (19, .iconst (-1)), (20, .istore 4), (22, .iload_n 3), (23, .istore 5), (25, .iload 5), (27, .ifCond .lt 29), (30, .aload_n 0), (31, .iload 5), (33, .iload_n 1), (34, .invokevirtual 132), (37, .ifCond .eq 19), (40, .iload 5), (42, .istore 4), (44, .aload_n 0), (45, .getfield 47), (48, .iload 5), (50, .iaload), (51, .istore 5), (53, .goto (-28)), (56, .iload 4), (58, .ifCond .lt 25), (61, .aload_n 0), (62, .getfield 47), (65, .iload_n 1), (66, .aload_n 0), (67, .getfield 47), (70, .iload 4), (72, .iaload), (73, .iastore), (74, .aload_n 0), (75, .getfield 47), (78, .iload 4), (80, .iload_n 1), (81, .iastore), (82, .return_), (83, .aload_n 0), (84, .getfield 47), (87, .iload_n 1), (88, .iload_n 3), (89, .iastore), (90, .iload_n 2), (91, .ifCond .ge 11), (94, .aload_n 0), (95, .iload_n 1), (96, .putfield 59), (99, .goto 29), (102, .aload_n 0), (103, .getfield 56), (106, .iload_n 1), (107, .baload), (108, .ifCond .eq 13), (111, .aload_n 0), (112, .getfield 53), (115, .iload_n 2), (116, .iload_n 1), (117, .iastore), (118, .goto 10), (121, .aload_n 0), (122, .getfield 50), (125, .iload_n 2), (126, .iload_n 1), (127, .iastore), (128, .return_)]
set_option maxRecDepth 100000 in
theorem kX12_hang : chk cX12_hang tX12_hang = true := by decide +kernel
theorem vX12_hang_128 : ∀ w ∈ ([.methodLink RX12 128 yX12_childrenOf, .instanceMethod yX12_childrenOf, .selects yX12_childrenOf.cls yX12_childrenOf yX12_childrenOf, .initialized yX12_childrenOf.cls, .code yX12_childrenOf cX12_childrenOf 3 (some .int)] : List Cond), w ∈ lw_good := List.forall_mem_cons.mpr ⟨mgd 2017 (by decide +kernel) (by decide +kernel), List.forall_mem_cons.mpr ⟨mgd 2019 (by decide +kernel) (by decide +kernel), List.forall_mem_cons.mpr ⟨mgd 58 (by decide +kernel) (by decide +kernel), List.forall_mem_cons.mpr ⟨mgd 138 (by decide +kernel) (by decide +kernel), List.forall_mem_cons.mpr ⟨mgd 2020 (by decide +kernel) (by decide +kernel), fun _ h => absurd h List.not_mem_nil⟩⟩⟩⟩⟩
theorem vX12_hang_132 : ∀ w ∈ ([.methodLink RX12 132 yX12_isLess, .instanceMethod yX12_isLess, .selects yX12_isLess.cls yX12_isLess yX12_isLess, .initialized yX12_isLess.cls, .code yX12_isLess cX12_isLess 3 (some .boolean)] : List Cond), w ∈ lw_good := List.forall_mem_cons.mpr ⟨mgd 2021 (by decide +kernel) (by decide +kernel), List.forall_mem_cons.mpr ⟨mgd 2022 (by decide +kernel) (by decide +kernel), List.forall_mem_cons.mpr ⟨mgd 2023 (by decide +kernel) (by decide +kernel), List.forall_mem_cons.mpr ⟨mgd 138 (by decide +kernel) (by decide +kernel), List.forall_mem_cons.mpr ⟨mgd 2024 (by decide +kernel) (by decide +kernel), fun _ h => absurd h List.not_mem_nil⟩⟩⟩⟩⟩
set_option maxRecDepth 100000 in
set_option maxHeartbeats 2000000 in
theorem c_rhg (l : Launch) : ∀ (g : Nat) (e : Nat) (F : Nat → Nat × Nat) (i : Nat) (y : Nat → Nat) (G : Gr) (T : Tr) (lf : Nat) (rg : Option Nat), Ct l yX12_hang cX12_hang 6 none 1 22 (sp_rhg g e F i y G T lf rg) := by
  intro g e F i y G T lf rg
  refine Ct.of (fX12, nX12, aX12, iX12, lX12, [(128, 0, 3, 1, T_rch), (132, 0, 3, 1, T_rlss)], qX12, gX12, []) false tX12_hang (fun _ S => look [(25, ([0,1,2,3,4,5], I_hg1 g e lf rg G T S)), (56, ([0,1,2,3,4], I_hg2 g e lf rg G T S))]) (by decide) (by decide) kX12_hang ⟨_, _, rfl⟩ fX12_ok nX12_ok aX12_ok iX12_ok lX12_ok (fun p e R s m args below meth c Q D cy z r A C hR1 hR2 => List.forall_mem_cons.mpr ⟨cOK_use (fun _ _ _ _ _ _ _ _ h => let ⟨sp, h1, h2, h3⟩ := u_rch l _ _ _ _ _ _ _ _ h; ⟨sp, cOK_V C h1 vX12_hang_128 ⟨by decide, by decide, by decide +kernel⟩ ⟨by rw [hR1]; decide, by rw [hR2]; decide⟩ (k := 13) (T := TX12) (N := 27) rfl (by decide) h2, h3⟩), List.forall_mem_cons.mpr ⟨cOK_use (fun _ _ _ _ _ _ _ _ h => let ⟨sp, h1, h2, h3⟩ := u_rlss l _ _ _ _ _ _ _ _ h; ⟨sp, cOK_V C h1 vX12_hang_132 ⟨by decide, by decide, by decide +kernel⟩ ⟨by rw [hR1]; decide, by rw [hR2]; decide⟩ (k := 13) (T := TX12) (N := 27) rfl (by decide) h2, h3⟩), fun _ h => absurd h List.not_mem_nil⟩⟩) qX12_ok gX12_ok rfl ?_ ?_
  · rintro _ S ⟨rfl, hp⟩
    refine ⟨Nat.le_of_ble_eq_true rfl, 300, ?_⟩
    show (isO S 13 g ∧ (pa (mR S 1312 g) fun a_1 => ∃ v_2 : Int32, (isO S 17 a_1 ∧ inR S a_1 (nI e) ∧ v_2 = eI S a_1 (nI e).toNatClampNeg ∨ a_1 = (mQ S).1 ∧ vp_in (nI e) 16 ∧ v_2 = mRem (nI e).toNatClampNeg) ∧ (isO S 13 g ∧ (pa (mR S 1316 g) fun a_3 => (isO S 16 a_3 ∨ isO S 20 a_3) ∧ inR S a_3 (nI e) ∧ (0 = 0 ∧ (∃ (F_4 : Nat → Nat × Nat) (i_5 : Nat) (y_6 : Nat → Nat) (G_7 : Gr) (T_8 : Tr) (x_9 : Nat) (bz_10 : Bool), (g = y_6 0 ∧ RG S F_4 i_5 y_6 G_7 T_8 ∧ v_2 = ndI x_9 ∧ (eI S a_3 (nI e).toNatClampNeg) = bI bz_10 ∧ x_9 ≤ G_7.n) ∧ 0 ≤ 0 ∧ 0 ≤ 0 ∧ ((∃ k1, I_hg1 g e lf rg G T S k1 [(0, .inr (.inr (some g))), (1, .inl (nI e)), (2, .inl v_2), (3, .inl (pnI (chO T_8 x_9 bz_10))), (4, .inl (-1 : Int32)), (5, .inl (pnI (chO T_8 x_9 bz_10)))] [] S 0 0))))))))
    obtain ⟨rfl, h, he, hne, hT, hP, hE⟩ := hp
    have hnm := h.nm
    have ce : (nI e).toNatClampNeg = e := nI_clamp (by omega)
    obtain ⟨A, hA⟩ := hP.rp hT
    exact ⟨(h 0).1, rdI h.r12.1 h.r12.2.1 (inRn h.r12.2.2 (by omega) (by decide)) (by rw [ce]; exact hE.1) ⟨(h 0).1, pa_i h.r16.1 ⟨Or.inr h.r16.2.1, inRn h.r16.2.2 (by omega) (by decide), rfl, F, i, y, G, T, rg.getD lf, rg.isNone, ⟨rfl, h, rfl, by rw [ce]; exact hE.2, hP.le h⟩, Nat.le_refl _, Nat.le_refl _, T.od.length + 1, T.od.length, T.row lf rg, none, A, rfl, hA, rfl, (fun x z => by cases z), by rw [hP.row hT]; rfl, rfl, rfl, rfl, rfl⟩⟩⟩
  · intro av S hpre pc I hI k lo st S1 cs sl h
    obtain ⟨rfl, hp⟩ := hpre
    have hm := look_in hI
    simp only [List.mem_cons, List.not_mem_nil, or_false] at hm
    rcases hm with hm | hm
    · cases hm
      obtain ⟨t, q, b, A, rfl, hA, hl, hb, rfl, rfl, rfl, rfl, rfl⟩ := h
      refine ⟨300, ?_⟩
      show (((pnI q) < 0 → (∃ k1, k1 < (t + 1) ∧ I_hg2 g e lf rg G T S k1 [(0, .inr (.inr (some g))), (1, .inl (nI e)), (2, .inl (ndI (rg.getD lf))), (3, .inl (pnI (T.row lf rg))), (4, .inl (pnI b))] [] S 0 0)) ∧ (¬ (pnI q) < 0 → (0 = 0 ∧ (∃ (e_1 : Nat), pnI q = nI e_1 ∧ (∃ (f_2 : Nat), nI e = nI f_2 ∧ (∃ (F_3 : Nat → Nat × Nat) (i_4 : Nat) (y_5 : Nat → Nat) (G_6 : Gr) (T_7 : Tr), (g = y_5 0 ∧ RG S F_3 i_4 y_5 G_6 T_7 ∧ e_1 < G_6.n ∧ f_2 < G_6.n) ∧ 0 ≤ 0 ∧ 0 ≤ 0 ∧ ((((bI (decide (G_6.key e_1 < G_6.key f_2))) = 0 → (∃ k1, k1 < (t + 1) ∧ I_hg2 g e lf rg G T S k1 [(0, .inr (.inr (some g))), (1, .inl (nI e)), (2, .inl (ndI (rg.getD lf))), (3, .inl (pnI (T.row lf rg))), (4, .inl (pnI b))] [] S 0 0)) ∧ (¬ (bI (decide (G_6.key e_1 < G_6.key f_2))) = 0 → (isO S 13 g ∧ (pa (mR S 1313 g) fun a_9 => ∃ v_10 : Int32, (isO S 17 a_9 ∧ inR S a_9 (pnI q) ∧ v_10 = eI S a_9 (pnI q).toNatClampNeg ∨ a_9 = (mQ S).1 ∧ vp_in (pnI q) 16 ∧ v_10 = mRem (pnI q).toNatClampNeg) ∧ (∃ k1, k1 < (t + 1) ∧ I_hg1 g e lf rg G T S k1 [(0, .inr (.inr (some g))), (1, .inl (nI e)), (2, .inl (ndI (rg.getD lf))), (3, .inl (pnI (T.row lf rg))), (4, .inl (pnI q)), (5, .inl v_10)] [] S 0 0))))))))))))
      obtain ⟨rfl, h, he, hne, hT, hP, hE⟩ := hp
      have hnm := h.nm
      cases q with
      | none =>
        have e1 : lstW (lessK G e) T.sb t b none = b := by cases t <;> rfl
        rw [e1] at hl
        exact ⟨fun _ => ⟨0, by omega, b, rfl, hl, hb, rfl, rfl, rfl, rfl, rfl⟩, fun w => absurd (by decide : (-1 : Int32) < 0) w⟩
      | some z =>
        obtain ⟨m, B, C, D, rfl, r1, r2, r3, rfl, r5⟩ := hA.nd
        obtain ⟨z', rfl, hz, -⟩ := h.ond r5
        have ez : lessK G e (z' + 1) = decide (G.key z' < G.key e) := rfl
        rw [lstW] at hl
        refine ⟨fun w => absurd w (nI_pos (show z' < 2147483648 by omega)), fun _ => ⟨rfl, z', rfl, e, rfl, F, i, y, G, T, ⟨rfl, h, hz, he⟩, Nat.le_refl _, Nat.le_refl _, fun w => ?_, fun w => ?_⟩⟩
        · rw [bI_0, ← ez] at w
          rw [w] at hl
          exact ⟨0, by omega, b, rfl, hl, hb, rfl, rfl, rfl, rfl, rfl⟩
        · rw [bI_0, Bool.not_eq_false, ← ez] at w
          rw [w, if_pos rfl] at hl
          exact ⟨(h 0).1, h.g13 (e := z') r5 ⟨m + 1, by omega, m, T.sb (z' + 1), some (z' + 1), D, rfl, r3, hl, (fun x ex => by cases ex; exact r5), rfl, rfl, rfl, rfl, rfl⟩⟩
    · cases hm
      obtain ⟨b, rfl, rfl, hb, rfl, rfl, rfl, rfl, rfl⟩ := h
      refine ⟨300, ?_⟩
      show (((pnI (lstW (lessK G e) T.sb T.od.length none (T.row lf rg))) < 0 → (isO S 13 g ∧ (pa (mR S 1313 g) fun a_1 => isO S 17 a_1 ∧ inR S a_1 (nI e) ∧ ((0 ≤ (ndI (rg.getD lf)) → (isO (rI S a_1 (upd (eI S a_1) (nI e).toNatClampNeg (pnI (T.row lf rg)))) 13 g ∧ (pa (mR (rI S a_1 (upd (eI S a_1) (nI e).toNatClampNeg (pnI (T.row lf rg)))) 1316 g) fun a_2 => (isO (rI S a_1 (upd (eI S a_1) (nI e).toNatClampNeg (pnI (T.row lf rg)))) 16 a_2 ∨ isO (rI S a_1 (upd (eI S a_1) (nI e).toNatClampNeg (pnI (T.row lf rg)))) 20 a_2) ∧ inR (rI S a_1 (upd (eI S a_1) (nI e).toNatClampNeg (pnI (T.row lf rg)))) a_2 (nI e) ∧ (((eI (rI S a_1 (upd (eI S a_1) (nI e).toNatClampNeg (pnI (T.row lf rg)))) a_2 (nI e).toNatClampNeg) = 0 → (isO (rI S a_1 (upd (eI S a_1) (nI e).toNatClampNeg (pnI (T.row lf rg)))) 13 g ∧ (pa (mR (rI S a_1 (upd (eI S a_1) (nI e).toNatClampNeg (pnI (T.row lf rg)))) 1314 g) fun a_3 => isO (rI S a_1 (upd (eI S a_1) (nI e).toNatClampNeg (pnI (T.row lf rg)))) 17 a_3 ∧ inR (rI S a_1 (upd (eI S a_1) (nI e).toNatClampNeg (pnI (T.row lf rg)))) a_3 (ndI (rg.getD lf)) ∧ (([] : List MV) = [] ∧ mret none (sp_rhg g e F i y G T lf rg) [.inr (.inr (some g)), .inl (nI e)] S none (rI (rI S a_1 (upd (eI S a_1) (nI e).toNatClampNeg (pnI (T.row lf rg)))) a_3 (upd (eI (rI S a_1 (upd (eI S a_1) (nI e).toNatClampNeg (pnI (T.row lf rg)))) a_3) (ndI (rg.getD lf)).toNatClampNeg (nI e))) 0 0)))) ∧ (¬ (eI (rI S a_1 (upd (eI S a_1) (nI e).toNatClampNeg (pnI (T.row lf rg)))) a_2 (nI e).toNatClampNeg) = 0 → (isO (rI S a_1 (upd (eI S a_1) (nI e).toNatClampNeg (pnI (T.row lf rg)))) 13 g ∧ (pa (mR (rI S a_1 (upd (eI S a_1) (nI e).toNatClampNeg (pnI (T.row lf rg)))) 1315 g) fun a_4 => isO (rI S a_1 (upd (eI S a_1) (nI e).toNatClampNeg (pnI (T.row lf rg)))) 17 a_4 ∧ inR (rI S a_1 (upd (eI S a_1) (nI e).toNatClampNeg (pnI (T.row lf rg)))) a_4 (ndI (rg.getD lf)) ∧ (([] : List MV) = [] ∧ mret none (sp_rhg g e F i y G T lf rg) [.inr (.inr (some g)), .inl (nI e)] S none (rI (rI S a_1 (upd (eI S a_1) (nI e).toNatClampNeg (pnI (T.row lf rg)))) a_4 (upd (eI (rI S a_1 (upd (eI S a_1) (nI e).toNatClampNeg (pnI (T.row lf rg)))) a_4) (ndI (rg.getD lf)).toNatClampNeg (nI e))) 0 0)))))))) ∧ (¬ 0 ≤ (ndI (rg.getD lf)) → (True ∧ (isO (rI S a_1 (upd (eI S a_1) (nI e).toNatClampNeg (pnI (T.row lf rg)))) 13 g ∧ (([] : List MV) = [] ∧ mret none (sp_rhg g e F i y G T lf rg) [.inr (.inr (some g)), .inl (nI e)] S none (sI (rI S a_1 (upd (eI S a_1) (nI e).toNatClampNeg (pnI (T.row lf rg)))) 1317 g (nI e)) 0 0)))))))) ∧ (¬ (pnI (lstW (lessK G e) T.sb T.od.length none (T.row lf rg))) < 0 → (isO S 13 g ∧ (isO S 13 g ∧ (pa (mR S 1313 g) fun a_5 => ∃ v_6 : Int32, (isO S 17 a_5 ∧ inR S a_5 (pnI (lstW (lessK G e) T.sb T.od.length none (T.row lf rg))) ∧ v_6 = eI S a_5 (pnI (lstW (lessK G e) T.sb T.od.length none (T.row lf rg))).toNatClampNeg ∨ a_5 = (mQ S).1 ∧ vp_in (pnI (lstW (lessK G e) T.sb T.od.length none (T.row lf rg))) 16 ∧ v_6 = mRem (pnI (lstW (lessK G e) T.sb T.od.length none (T.row lf rg))).toNatClampNeg) ∧ (pa (mR S 1313 g) fun a_7 => isO S 17 a_7 ∧ inR S a_7 (nI e) ∧ (isO (rI S a_7 (upd (eI S a_7) (nI e).toNatClampNeg v_6)) 13 g ∧ (pa (mR (rI S a_7 (upd (eI S a_7) (nI e).toNatClampNeg v_6)) 1313 g) fun a_8 => isO (rI S a_7 (upd (eI S a_7) (nI e).toNatClampNeg v_6)) 17 a_8 ∧ inR (rI S a_7 (upd (eI S a_7) (nI e).toNatClampNeg v_6)) a_8 (pnI (lstW (lessK G e) T.sb T.od.length none (T.row lf rg))) ∧ (([] : List MV) = [] ∧ mret none (sp_rhg g e F i y G T lf rg) [.inr (.inr (some g)), .inl (nI e)] S none (rI (rI S a_7 (upd (eI S a_7) (nI e).toNatClampNeg v_6)) a_8 (upd (eI (rI S a_7 (upd (eI S a_7) (nI e).toNatClampNeg v_6)) a_8) (pnI (lstW (lessK G e) T.sb T.od.length none (T.row lf rg))).toNatClampNeg (nI e))) 0 0)))))))))
      obtain ⟨rfl, h, he, hne, hT, hP, hE⟩ := hp
      have hnm := h.nm
      have ce : (nI e).toNatClampNeg = e := nI_clamp (by omega)
      have w13 : rwK 13 := Or.inl (by decide)
      have w14 : rwK 14 := Or.inl (by decide)
      have w15 : rwK 15 := Or.inl (by decide)
      have w16 : rwK 16 := Or.inl (by decide)
      have h0 := h.rs
      have k13 : ∀ {S2 : MM} {f : Nat → Int32}, Keep (gO F i) S S2 → Keep (gO F i) S (rI S2 (y 13) f) := fun h9 => Keep.rI (P := gO F i) h9 (h0.gown w13 (Or.inl (by decide)))
      cases hx : lstW (lessK G e) T.sb T.od.length none (T.row lf rg) with
      | none =>
        have h1 := h0.wr w13 ce (pnI (T.row lf rg))
        have e16 := h1.e w16
        have e13 : ∀ x, x ∈ T.od → upd (eI S (y 13)) e (pnI (T.row lf rg)) (x - 1) = pnI (updO T.sb (e + 1) (T.row lf rg) x) := fun x hx => by
          have := h.ode hne hx
          rw [upd, if_neg this.1, updO_o this.2.1]
          exact (h 8).1 x hx
        refine ⟨fun _ => ⟨(h 0).1, pa_i h.r13.1 ⟨h.r13.2.1, inRn h.r13.2.2 (by omega) (by decide), ?_⟩⟩, fun w => absurd (by decide : (-1 : Int32) < 0) w⟩
        cases rg with
        | none =>
          have eT : hgT G T e lf none = (T.fl, updO T.fr lf (some (e + 1)), updO T.sb (e + 1) (T.fr lf), updN T.pr (e + 1) lf, T.od) := Tr.put_n hx
          cases lf with
          | zero =>
            have h2 := h1.si 17 (nI e)
            refine ⟨fun w => absurd w (by decide), fun _ => ⟨trivial, (h 0).1, rfl, trivial, ⟨rfl, hgQ.mk h h2 ?_ ?_ ?_ ?_ ?_ ?_ ?_ ?_⟩, Nat.le_refl _, Nat.le_refl _⟩⟩
            · exact Keep.sI (P := gO F i) (k13 Keep.rf) h0.gobj
            · rw [eT]; rfl
            · rw [eT]; rfl
            · exact fun k hk => if_neg hk
            · rw [eT]; exact e13
            · rw [eT]
              show upd _ e _ e = pnI (updO T.sb (e + 1) (T.fr 0) (e + 1))
              rw [upd, if_pos rfl, updO_s]; rfl
            · rw [eT]
              intro k hk
              refine ⟨((h 8).2 k hk).1, ?_⟩
              show _ = pnI (updO T.fr 0 (some (e + 1)) (k + 1))
              rw [updO_o (Nat.succ_ne_zero k)]
              exact ((h 8).2 k hk).2
            · exact fun k a b c => if_neg a
          | succ x =>
            have hxn : x < G.n := by have := hP.le h; exact this
            have cx : (nI x).toNatClampNeg = x := nI_clamp (by omega)
            have ex : ndI (Option.getD none (x + 1)) = nI x := rfl
            have h2 := h1.wr w15 cx (nI e)
            have hb1 : eI S (y 16) e = 1 := hE.2
            rw [ex]
            refine ⟨fun _ => ⟨(h 0).1, pa_i h.r16.1 ⟨Or.inr h.r16.2.1, inRn h.r16.2.2 (by omega) (by decide), fun w => ?_, fun _ => ⟨(h 0).1, pa_i h.r15.1 ⟨h.r15.2.1, inRn h.r15.2.2 (by omega) (by decide), rfl, trivial, ⟨rfl, hgQ.mk h h2 ?_ ?_ ?_ ?_ ?_ ?_ ?_ ?_⟩, Nat.le_refl _, Nat.le_refl _⟩⟩⟩⟩, fun w => absurd (nI_pos' (show x < 2147483648 by omega)) w⟩
            · rw [e16, ce] at w
              exact absurd (w.symm.trans hb1) (by decide)
            · exact Keep.rI (P := gO F i) (k13 Keep.rf) (h0.gown w15 (Or.inl (by decide)))
            · rw [eT]; rfl
            · rw [eT]
              show _ = pnI (updO T.fr (x + 1) (some (e + 1)) 0)
              rw [updO_o (fun z => Nat.succ_ne_zero x z.symm)]
              exact h 9
            · exact fun k hk => rfl
            · rw [eT]; exact e13
            · rw [eT]
              show upd _ e _ e = pnI (updO T.sb (e + 1) (T.fr (x + 1)) (e + 1))
              rw [upd, if_pos rfl, updO_s]; rfl
            · rw [eT]
              intro k hk
              refine ⟨((h 8).2 k hk).1, ?_⟩
              show upd (eI S (y 15)) x (nI e) k = pnI (updO T.fr (x + 1) (some (e + 1)) (k + 1))
              rw [upd]
              by_cases c : k = x
              · rw [if_pos c, c, updO_s]; rfl
              · rw [if_neg c, updO_o (fun z => c (by omega))]
                exact ((h 8).2 k hk).2
            · intro k a b c
              unfold updF
              rw [if_neg c, if_neg a]
        | some r =>
          have eT : hgT G T e lf (some r) = (updO T.fl r (some (e + 1)), T.fr, updO T.sb (e + 1) (T.fl r), updN T.pr (e + 1) r, T.od) := Tr.put_l hx
          obtain ⟨x, rfl, hxn, -⟩ := h.ond (hP.2 r rfl)
          have cx : (nI x).toNatClampNeg = x := nI_clamp (by omega)
          have ex : ndI (Option.getD (some (x + 1)) lf) = nI x := rfl
          have h2 := h1.wr w14 cx (nI e)
          have hb0 : eI S (y 16) e = 0 := hE.2
          rw [ex]
          refine ⟨fun _ => ⟨(h 0).1, pa_i h.r16.1 ⟨Or.inr h.r16.2.1, inRn h.r16.2.2 (by omega) (by decide), fun _ => ⟨(h 0).1, pa_i h.r14.1 ⟨h.r14.2.1, inRn h.r14.2.2 (by omega) (by decide), rfl, trivial, ⟨rfl, hgQ.mk h h2 ?_ ?_ ?_ ?_ ?_ ?_ ?_ ?_⟩, Nat.le_refl _, Nat.le_refl _⟩⟩, fun w => ?_⟩⟩, fun w => absurd (nI_pos' (show x < 2147483648 by omega)) w⟩
          · exact Keep.rI (P := gO F i) (k13 Keep.rf) (h0.gown w14 (Or.inl (by decide)))
          · rw [eT]; rfl
          · rw [eT]; exact h 9
          · exact fun k hk => rfl
          · rw [eT]; exact e13
          · rw [eT]
            show upd _ e _ e = pnI (updO T.sb (e + 1) (T.fl (x + 1)) (e + 1))
            rw [upd, if_pos rfl, updO_s]; rfl
          · rw [eT]
            intro k hk
            refine ⟨?_, ((h 8).2 k hk).2⟩
            show upd (eI S (y 14)) x (nI e) k = pnI (updO T.fl (x + 1) (some (e + 1)) (k + 1))
            rw [upd]
            by_cases c : k = x
            · rw [if_pos c, c, updO_s]; rfl
            · rw [if_neg c, updO_o (fun z => c (by omega))]
              exact ((h 8).2 k hk).1
          · intro k a b c
            unfold updF
            rw [if_neg b, if_neg a]
          · rw [e16, ce] at w
            exact absurd hb0 w
      | some z =>
        have hzO := hb z hx
        obtain ⟨x, rfl, hxn, -⟩ := h.ond hzO
        have hxe : x ≠ e := (h.ode hne hzO).1
        have cx : (nI x).toNatClampNeg = x := nI_clamp (by omega)
        have eT : hgT G T e lf rg = (T.fl, T.fr, updO (updO T.sb (e + 1) (T.sb (x + 1))) (x + 1) (some (e + 1)), updN T.pr (e + 1) (rg.getD lf), T.od) := Tr.put_s hx
        have h1 := h0.wr w13 ce (pnI (T.sb (x + 1)))
        have h2 := h1.wr w13 cx (nI e)
        refine ⟨fun w => absurd w (nI_pos (show x < 2147483648 by omega)), fun _ => ⟨(h 0).1, (h 0).1, h.g13 (e := x) hzO (pa_i h.r13.1 ⟨h.r13.2.1, inRn h.r13.2.2 (by omega) (by decide), (h 0).1, pa_i h.r13.1 ⟨h.r13.2.1, inRn h.r13.2.2 (show x < 8192 by omega) (by decide), rfl, trivial, ⟨rfl, hgQ.mk h h2 ?_ ?_ ?_ ?_ ?_ ?_ ?_ ?_⟩, Nat.le_refl _, Nat.le_refl _⟩⟩)⟩⟩
        · exact k13 (k13 Keep.rf)
        · rw [eT]; rfl
        · rw [eT]; exact h 9
        · exact fun k hk => rfl
        · rw [eT]
          intro z hz
          have hz' := h.ode hne hz
          show upd (upd (eI S (y 13)) e (pnI (T.sb (x + 1)))) x (nI e) (z - 1) = pnI (updO (updO T.sb (e + 1) (T.sb (x + 1))) (x + 1) (some (e + 1)) z)
          rw [upd]
          by_cases c : z = x + 1
          · subst c; rw [if_pos (show x + 1 - 1 = x from rfl), updO_s]; rfl
          · rw [if_neg (by omega), updO_o c, updO_o hz'.2.1, upd, if_neg hz'.1]
            exact (h 8).1 z hz
        · rw [eT]
          show upd (upd (eI S (y 13)) e (pnI (T.sb (x + 1)))) x (nI e) e = pnI (updO (updO T.sb (e + 1) (T.sb (x + 1))) (x + 1) (some (e + 1)) (e + 1))
          rw [upd, if_neg (fun z => hxe z.symm), upd, if_pos rfl, updO_o (fun z => hxe (by omega)), updO_s]
        · rw [eT]; exact (h 8).2
        · intro k a b c
          unfold updF
          rw [if_neg a, if_neg a]
theorem u_rhg (l : Launch) : Us l yX12_hang cX12_hang 6 none 1 22 13 T_rhg := by
  intro Rc Rs av S cs sl K Kx h
  unfold T_rhg at h
  split at h
  · rename_i g_o e_v
    obtain ⟨g, rfl, h_1⟩ := pa_of h
    obtain ⟨e, rfl, h_2⟩ := h_1
    obtain ⟨F, i, y, G, T, lf, rg, hp, hc, hs, hk⟩ := h_2
    refine ⟨(sp_rhg g e F i y G T lf rg), c_rhg l g e F i y G T lf rg, fun _ _ h9 => ⟨_, _, h9.1, (h9.2.1 ▸ (h9.2.2.1 0).1)⟩, ⟨rfl, hp⟩, hc, hs, fun S' h8 => by
      obtain ⟨-, h8⟩ := h8
      exact hk _ h8, fun _ _ q => q.elim⟩
  · exact h.elim
