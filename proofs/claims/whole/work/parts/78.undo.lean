/-! ===== Undoing: runs of writes ===== -/
section RUNW
variable {S S1 S2 : MM} {F F1 : Nat → Nat × Nat} {i jo b r p s : Nat} {A A1 : Nat → Nat} {X X1 : GX} {G G1 : Gr} {T T1 : Tr} {H1 : List Nat} {W1 : Nat → Nat} {a d c : Nat} {E : List (Nat × Nat)} {ea : Nat → Nat} {ops : List (Option Nat × Nat)}
theorem RnQ.rf {H : List Nat} {W : Nat → Nat} (hW : WrR S F i jo b r p A X G T H W) (h1 : mR S 1102 b = some a) (hE : EdL S F jo a d c E ea) : RnQ S S F i jo b r p s A X G T a d c E ea [] F A X G T H W :=
  ⟨hW, h1, hE, fun _ _ => rfl, Keep.rf, ⟨rfl, rfl⟩, rfl, fun _ _ => rfl, rfl, rfl, Or.inr ⟨rfl, rfl⟩⟩
theorem RnQ.sl (h : RnQ S S1 F i jo b r p s A X G T a d c E ea ops F1 A1 X1 G1 T1 H1 W1) (h4 : OwSl G p s) : OwSl G1 p s := by
  rcases h.2.2.2.2.2.2.2.2.2.2 with w | ⟨-, w⟩
  · exact Or.inl w
  · rw [w]; exact h4
theorem RnQ.cost (h : RnQ S S1 F i jo b r p s A X G T a d c E ea ops F1 A1 X1 G1 T1 H1 W1) : runC G s ops.length + enC G1 s ≤ runC G s (ops.length + 1) ∧ runZ G s ops.length + enZ G1 s ≤ runZ G s (ops.length + 1) := by
  obtain ⟨-, -, -, -, -, -, -, -, q9, q10, q11⟩ := h
  refine runC_s q9 q10 ?_ ?_
  · rcases q11 with w | ⟨w, v⟩
    · exact Or.inl w.1
    · by_cases u : s < G.m
      · exact Or.inl (by rw [v]; exact u)
      · exact Or.inr ⟨by rw [w]; rfl, u⟩
  · intro u
    rcases q11 with w | ⟨-, v⟩
    · exact w.1
    · rw [v]; exact u
theorem RnQ.wr {oc : Option Nat} {ix : Nat} (h : RnQ S S1 F i jo b r p s A X G T a d c E ea ops F1 A1 X1 G1 T1 H1 W1) (hw : wrQ S1 S2 F1 i r A1 X1 G1 T1 H1 p oc ix s) (h4 : OwSl G1 p s) : ∃ F2 A2 X2 G2 T2 H2 W2, RnQ S S2 F i jo b r p s A X G T a d c E ea (ops ++ [(oc, ix)]) F2 A2 X2 G2 T2 H2 W2 ∧ StpE G1 T1 p H1 oc ix s G2 T2 ∧ KRk S1 S2 := by
  obtain ⟨q1, q2, q3, q4, q5, q6, q7, q8, q9, q10, q11⟩ := h
  obtain ⟨w1, w2, w3, w4, w5, w6, w7, w8, wG, wF, wi, wj, wj0⟩ := id q1
  obtain ⟨F2, A2, X2, G2, T2, H2, W2, y1, y2, y3, y4, y5, y6, y7, y8⟩ := hw
  obtain ⟨n1, n2, n3, n4, -⟩ := y5.nx h4.eg
  have hd : HdS G1 H1 := wG 20
  have nP : ∀ {x rl : Nat}, F1 x = (jo, rl) → rl ≠ 5 → ¬ ((F1 x).1 = i ∨ x = r) := fun hx hr w => w.elim (fun v => wj (by rw [hx] at v; exact v)) (fun v => f_ne hx w8 hr v)
  have ed := q3.keep y4 (nP q3.2.1 (by decide)) (fun w => nP (q3.2.2.1 w) (by decide)) (fun l hl => nP (q3.2.2.2 l hl).2.1 (by omega)) y3
  have kb := y4.2.1 b w1.1 (nP w2 (by decide))
  refine ⟨F2, A2, X2, G2, T2, H2, W2, ⟨q1.nx y1 y2 y3 y4 y6, (kb.2.1 1102).trans q2, ed, fun x hx => (y3 x (q5.1 x hx).1).trans (q4 x hx), q5.trN y4 (fun x hx w => w.imp (fun v => by rw [← q4 x hx]; exact v) id), q6.snoc ⟨H1, hd, y5⟩, y6.trans q7, fun l hl => (y7 l (by omega)).trans (q8 l hl), ?_, ?_, Or.inl ⟨n3, n4⟩⟩, y5, y8⟩
  · rw [List.length_append, List.length_singleton, n1, q9]; omega
  · rw [List.length_append, List.length_singleton, n2, q10]; omega
theorem StpE.visM {G' : Gr} {T' : Tr} {P : List Nat} {oc : Option Nat} {ix : Nat} (h : StpE G T p P oc ix s G' T') {k : Nat} (hv : vis G' (k + 1) = true) : vis G (k + 1) = true := by
  obtain ⟨e, e1, e2, e3, e4, e5, e6, e7, rfl, e8, -⟩ := h
  have hv := of_decide_eq_true hv
  rw [Nat.add_sub_cancel, Gr.push_stk, eGr_stk] at hv
  refine decide_eq_true ?_
  rw [Nat.add_sub_cancel]
  cases h9 : stk G k with
  | none => rfl
  | some j => rw [h9] at hv; cases hv
theorem StpE.old {G' : Gr} {T' : Tr} {P : List Nat} {oc : Option Nat} {ix : Nat} (h : StpE G T p P oc ix s G' T') {k : Nat} (hk : k < G.n) : G'.ev k = G.ev k := by
  obtain ⟨e, e1, e2, e3, e4, e5, e6, e7, rfl, e8, -⟩ := h
  rw [Gr.push_old (by rw [(eGr_n G s p).1]; exact hk), (eGr_n G s p).2]
end RUNW
theorem EdL.at {S : MM} {F : Nat → Nat × Nat} {jo a d c : Nat} {E : List (Nat × Nat)} {ea : Nat → Nat} (h : EdL S F jo a d c E ea) {l fi sz : Nat} (hl : E[l]? = some (fi, sz)) : isO S 4 (ea l) ∧ F (ea l) = (jo, 100 + l) ∧ mI S 400 (ea l) = nI fi ∧ mI S 401 (ea l) = nI sz := by
  have hlt : l < E.length := (List.getElem?_eq_some_iff.mp hl).1
  have e1 : E.getD l (0, 0) = (fi, sz) := by rw [List.getD_eq_getElem?_getD, hl]; rfl
  have := h.2.2.2 l hlt
  rw [e1] at this
  exact this
theorem cuN_mono {G : Gr} {fi n : Nat} : ∀ {m : Nat}, n ≤ m → cuN G fi n ≤ cuN G fi m
  | 0, h => by rw [show n = 0 by omega]; exact Nat.le_refl _
  | m + 1, h => by
    rcases Nat.lt_or_ge m n with q | q
    · rw [show n = m + 1 by omega]; exact Nat.le_refl _
    · exact Nat.le_trans (cuN_mono q) (by rw [cuN]; exact Nat.le_add_right _ _)
/-- what undoing an insertion does: the call's nodes from the last on, those that are visible, each at its rank -/
def UnD (p s fi : Nat) (R : Nat → Nat) : Nat → Gr → Tr → Gr → Tr → Prop
  | 0, G, T, G', T' => G' = G ∧ T' = T
  | k + 1, G, T, G', T' => (vis G (fi + k + 1) = true ∧ ∃ G1 T1, OwS G T p s none (R k) G1 T1 ∧ UnD p s fi R k G1 T1 G' T') ∨ (vis G (fi + k + 1) = false ∧ UnD p s fi R k G T G' T')
theorem lmI_dec (k : Nat) : nI k + (-1 : Int32) = lmI k := by
  cases k with
  | zero => decide
  | succ k =>
    show nI (k + 1) + -1 = nI k
    rw [← nI_1, Int32.add_assoc, show (1 : Int32) + -1 = 0 from by decide, Int32.add_zero]
theorem lmI_sub (k : Nat) : nI k - (1 : Int32) = lmI k := by
  rw [Int32.sub_eq_add_neg]
  exact lmI_dec k
/-- an edit of a peer, its events and what they ask -/
def daR (S : MM) (F : Nat → Nat × Nat) (i jo b r p s : Nat) (A : Nat → Nat) (X : GX) (G : Gr) (T : Tr) (H : List Nat) (W : Nat → Nat) (a d c : Nat) (E : List (Nat × Nat)) (ea : Nat → Nat) (e l9 fi sz : Nat) (R : Nat → Nat) : Prop :=
  WrR S F i jo b r p A X G T H W ∧ mR S 1102 b = some a ∧ EdL S F jo a d c E ea ∧ p < 256 ∧ OwSl G p s ∧ e = ea l9 ∧ E[l9]? = some (fi, sz) ∧ fi + sz ≤ G.n ∧ G.n + cuN G fi sz ≤ 8192 ∧ (∀ k, k < sz → (G.ev (fi + k)).ch ≠ none ∧ (vis G (fi + k + 1) = true → mI S 515 (X.ad (fi + k)) = nI (R k) ∧ R k < visN G T)) ∧ ∀ k k', k < k' → k' < sz → vis G (fi + k + 1) = true → vis G (fi + k' + 1) = true → R k < R k'
def I_da (b e : Nat) (F : Nat → Nat × Nat) (i jo r p s : Nat) (A : Nat → Nat) (X : GX) (G : Gr) (T : Tr) (a d c : Nat) (E : List (Nat × Nat)) (ea : Nat → Nat) (fi sz : Nat) (R : Nat → Nat) (S : MM) (t : Nat) : KT := fun lo st S1 cs sl => ∃ kk ops F1 A1 X1 G1 T1 H1 W1, t = kk ∧ kk ≤ sz ∧ lo = [(2, .inl (lmI kk)), (0, .inr (.inr (some b))), (1, .inr (.inr (some e)))] ∧ st = [] ∧ RnQ S S1 F i jo b r p s A X G T a d c E ea ops F1 A1 X1 G1 T1 H1 W1 ∧ KRk S S1 ∧ visN G1 T1 + ops.length = visN G T ∧ (∀ k, vis G1 (k + 1) = true → vis G (k + 1) = true) ∧ (∀ k, k < kk → vis G (fi + k + 1) = true → R k + ops.length < visN G T) ∧ ops.length + cuN G fi kk ≤ cuN G fi sz ∧ (∀ G' T', UnD p s fi R kk G1 T1 G' T' → UnD p s fi R sz G T G' T') ∧ (∀ k, k < G.n → (G1.ev k).ch = (G.ev k).ch) ∧ cs ≤ runC G s ops.length ∧ sl ≤ runZ G s ops.length
def daQ (S S' : MM) (F : Nat → Nat × Nat) (i jo b r p s : Nat) (A : Nat → Nat) (X : GX) (G : Gr) (T : Tr) (a d c : Nat) (E : List (Nat × Nat)) (ea : Nat → Nat) (fi sz : Nat) (R : Nat → Nat) : Prop := ∃ ops F' A' X' G' T' H' W', RnQ S S' F i jo b r p s A X G T a d c E ea ops F' A' X' G' T' H' W' ∧ UnD p s fi R sz G T G' T'
def T_pda : TR := fun Rc Rs av S cs sl K _Kx => match av with
  | [.inr (.inr b_o), .inr (.inr e_o)] => pa b_o fun b => (pa e_o fun e => (∃ (F : Nat → Nat × Nat) (i jo r p s : Nat) (A : Nat → Nat) (X : GX) (G : Gr) (T : Tr) (H : List Nat) (W : Nat → Nat) (a d c : Nat) (E : List (Nat × Nat)) (ea : Nat → Nat) (l9 fi sz : Nat) (R : Nat → Nat), (daR S F i jo b r p s A X G T H W a d c E ea e l9 fi sz R) ∧ cs + (runC G s (cuN G fi sz)) ≤ Rc ∧ sl + (runZ G s (cuN G fi sz)) ≤ Rs ∧ (∀ (S' : MM), (daQ S S' F i jo b r p s A X G T a d c E ea fi sz R) → K none S' (cs + (runC G s (cuN G fi sz))) (sl + (runZ G s (cuN G fi sz))))))
  | _ => False
def sp_pda (b : Nat) (e : Nat) (F : Nat → Nat × Nat) (i jo r p s : Nat) (A : Nat → Nat) (X : GX) (G : Gr) (T : Tr) (H : List Nat) (W : Nat → Nat) (a d c : Nat) (E : List (Nat × Nat)) (ea : Nat → Nat) (l9 fi sz : Nat) (R : Nat → Nat) : Sp := (fun av S => av = [.inr (.inr (some b)), .inr (.inr (some e))] ∧ (daR S F i jo b r p s A X G T H W a d c E ea e l9 fi sz R), fun _ S => runC G s (cuN G fi sz), fun _ S => runZ G s (cuN G fi sz), fun _ S rv S' => rv = none ∧ (daQ S S' F i jo b r p s A X G T a d c E ea fi sz R), fun _ _ _ _ => False)
def tX10_deleteAgain : CD := [(0, .aload_n 1), (1, .getfield 107), (4, .iconst 1), (5, .isub), (6, .istore_n 2), (7, .iload_n 2), (8, .ifCond .lt 45), (11, .aload_n 0), (12, .getfield 12), (15, .getfield 70), (18, .aload_n 1), (19, .getfield 109), (22, .iload_n 2), (23, .iadd), (24, .invokevirtual 92), (27, .checkcast 30), (30, .astore_n 3), (31, .aload_n 3), (32, .invokevirtual 115), (35, .ifCond .eq 12), (38, .aload_n 0), (39, .iconst (-1)), (40, .aload_n 3), (41, .getfield 131), (44, .invokevirtual 60), (47, .iinc 2 (-1)), (50, .goto (-43)), (53, .return_)]
set_option maxRecDepth 100000 in
theorem kX10_deleteAgain : chk cX10_deleteAgain tX10_deleteAgain = true := by decide +kernel
theorem vX10_deleteAgain_92 : ∀ w ∈ ([.methodLink RX10 92 yJx4a65c_get_915e3, .instanceMethod yJx4a65c_get_915e3, .selects yJx4a65c_get_915e3.cls yJx4a65c_get_915e3 yJx4a65c_get_915e3, .initialized yJx4a65c_get_915e3.cls, .code yJx4a65c_get_915e3 cJx4a65c_get_915e3 2 (some (.object "java/lang/Object"))] : List Cond), w ∈ lw_good := List.forall_mem_cons.mpr ⟨mgd 873 (by decide +kernel) (by decide +kernel), List.forall_mem_cons.mpr ⟨mgd 677 (by decide +kernel) (by decide +kernel), List.forall_mem_cons.mpr ⟨mgd 678 (by decide +kernel) (by decide +kernel), List.forall_mem_cons.mpr ⟨mgd 130 (by decide +kernel) (by decide +kernel), List.forall_mem_cons.mpr ⟨mgd 679 (by decide +kernel) (by decide +kernel), fun _ h => absurd h List.not_mem_nil⟩⟩⟩⟩⟩
theorem vX10_deleteAgain_115 : ∀ w ∈ ([.methodLink RX10 115 yX4_isVisible, .instanceMethod yX4_isVisible, .selects yX4_isVisible.cls yX4_isVisible yX4_isVisible, .initialized yX4_isVisible.cls, .code yX4_isVisible cX4_isVisible 1 (some .boolean)] : List Cond), w ∈ lw_good := List.forall_mem_cons.mpr ⟨mgd 1118 (by decide +kernel) (by decide +kernel), List.forall_mem_cons.mpr ⟨mgd 945 (by decide +kernel) (by decide +kernel), List.forall_mem_cons.mpr ⟨mgd 946 (by decide +kernel) (by decide +kernel), List.forall_mem_cons.mpr ⟨mgd 126 (by decide +kernel) (by decide +kernel), List.forall_mem_cons.mpr ⟨mgd 947 (by decide +kernel) (by decide +kernel), fun _ h => absurd h List.not_mem_nil⟩⟩⟩⟩⟩
theorem vX10_deleteAgain_60 : ∀ w ∈ ([.methodLink RX10 60 yX10_write, .instanceMethod yX10_write, .selects yX10_write.cls yX10_write yX10_write, .initialized yX10_write.cls, .code yX10_write cX10_write 5 none] : List Cond), w ∈ lw_good := List.forall_mem_cons.mpr ⟨mgd 867 (by decide +kernel) (by decide +kernel), List.forall_mem_cons.mpr ⟨mgd 869 (by decide +kernel) (by decide +kernel), List.forall_mem_cons.mpr ⟨mgd 2 (by decide +kernel) (by decide +kernel), List.forall_mem_cons.mpr ⟨mgd 124 (by decide +kernel) (by decide +kernel), List.forall_mem_cons.mpr ⟨mgd 870 (by decide +kernel) (by decide +kernel), fun _ h => absurd h List.not_mem_nil⟩⟩⟩⟩⟩
set_option maxRecDepth 100000 in
set_option maxHeartbeats 2000000 in
theorem c_pda (l : Launch) : ∀ (b : Nat) (e : Nat) (F : Nat → Nat × Nat) (i jo r p s : Nat) (A : Nat → Nat) (X : GX) (G : Gr) (T : Tr) (H : List Nat) (W : Nat → Nat) (a d c : Nat) (E : List (Nat × Nat)) (ea : Nat → Nat) (l9 fi sz : Nat) (R : Nat → Nat), Ct l yX10_deleteAgain cX10_deleteAgain 4 none 9 219 (sp_pda b e F i jo r p s A X G T H W a d c E ea l9 fi sz R) := by
  intro b e F i jo r p s A X G T H W a d c E ea l9 fi sz R
  refine Ct.of (fX10, nX10, aX10, iX10, lX10, [(92, 0, 2, 3, T_alget), (115, 0, 1, 1, T_vis), (60, 0, 3, 0, T_pwr)], qX10, gX10, []) false tX10_deleteAgain (fun _ S => look [(7, ([2,0,1], I_da b e F i jo r p s A X G T a d c E ea fi sz R S))]) (by decide) (by decide) kX10_deleteAgain ⟨_, _, rfl⟩ fX10_ok nX10_ok aX10_ok iX10_ok lX10_ok (fun p e R s m args below meth c Q D cy z r A C hR1 hR2 => List.forall_mem_cons.mpr ⟨cOK_use (fun _ _ _ _ _ _ _ _ h => let ⟨sp, h1, h2, h3⟩ := u_alget l _ _ _ _ _ _ _ _ h; ⟨sp, cOK_V C h1 vX10_deleteAgain_92 ⟨by decide, by decide, by decide +kernel⟩ ⟨by rw [hR1]; decide, by rw [hR2]; decide⟩ (k := 0) (T := TJx4a65c) (N := 3) rfl (by decide) h2, h3⟩), List.forall_mem_cons.mpr ⟨cOK_use (fun _ _ _ _ _ _ _ _ h => let ⟨sp, h1, h2, h3⟩ := u_vis l _ _ _ _ _ _ _ _ h; ⟨sp, cOK_V C h1 vX10_deleteAgain_115 ⟨by decide, by decide, by decide +kernel⟩ ⟨by rw [hR1]; decide, by rw [hR2]; decide⟩ (k := 5) (T := TX4) (N := 16) rfl (by decide) h2, h3⟩), List.forall_mem_cons.mpr ⟨cOK_use (fun _ _ _ _ _ _ _ _ h => let ⟨sp, h1, h2, h3⟩ := u_pwr l _ _ _ _ _ _ _ _ h; ⟨sp, cOK_V C h1 vX10_deleteAgain_60 ⟨by decide, by decide, by decide +kernel⟩ ⟨by rw [hR1]; decide, by rw [hR2]; decide⟩ (k := 11) (T := TX10) (N := 6) rfl (by decide) h2, h3⟩), fun _ h => absurd h List.not_mem_nil⟩⟩⟩) qX10_ok gX10_ok rfl ?_ ?_
  · rintro _ S ⟨rfl, hp⟩
    refine ⟨Nat.le_of_ble_eq_true rfl, 300, ?_⟩
    show (isO S 4 e ∧ (∃ k1, I_da b e F i jo r p s A X G T a d c E ea fi sz R S k1 [(2, .inl ((mI S 401 e) - (1 : Int32))), (0, .inr (.inr (some b))), (1, .inr (.inr (some e)))] [] S 0 0))
    obtain ⟨hW, h1, hE, h2, h3, rfl, h4, h5, h6, h7, h8⟩ := hp
    obtain ⟨e1, e2, e3, e4⟩ := hE.at h4
    refine ⟨e1, sz, sz, [], F, A, X, G, T, H, W, rfl, Nat.le_refl _, ?_, rfl, RnQ.rf hW h1 hE, fun _ _ => rfl, rfl, fun _ q => q, fun k hk q => ((h7 k hk).2 q).2, Nat.le_of_eq (Nat.zero_add _), fun _ _ q => q, fun _ _ => rfl, Nat.zero_le _, Nat.zero_le _⟩
    rw [e4, lmI_sub]
  · intro av S hpre pc I hI k lo st S1 cs sl h
    obtain ⟨rfl, hp⟩ := hpre
    have hm := look_in hI
    rw [List.mem_singleton] at hm
    cases hm
    obtain ⟨kk, ops, F1, A1, X1, G1, T1, H1, W1, rfl, hkk, rfl, rfl, hQ, hR, hv, hm1, hm2, hcu, hun, hch, hcs, hsl⟩ := h
    refine ⟨300, ?_⟩
    show (((lmI k) < 0 → (([] : List MV) = [] ∧ mret none (sp_pda b e F i jo r p s A X G T H W a d c E ea l9 fi sz R) [.inr (.inr (some b)), .inr (.inr (some e))] S none S1 cs sl)) ∧ (¬ (lmI k) < 0 → (isO S1 11 b ∧ (pa (mR S1 1101 b) fun a_1 => isO S1 6 a_1 ∧ (isO S1 4 e ∧ (0 = 0 ∧ ((pa (mR S1 601 a_1) fun a_2 => (∃ (i_3 : Nat), (mI S1 400 e) + (lmI k) = nI i_3 ∧ (∃ (d_4 c_5 kk_6 : Nat) (L_7 : List Nat), (AL S1 a_2 d_4 c_5 kk_6 L_7 ∧ i_3 < L_7.length) ∧ cs ≤ runC G s (cuN G fi sz) ∧ sl ≤ runZ G s (cuN G fi sz) ∧ (((∀ w_9, (L_7[i_3]?) = some w_9 → isO S1 5 w_9) ∧ (0 = 0 ∧ ((pa (L_7[i_3]?) fun a_10 => ((isO S1 5 a_10) ∧ cs ≤ runC G s (cuN G fi sz) ∧ sl ≤ runZ G s (cuN G fi sz) ∧ ((((if mI S1 514 a_10 = -1 then 1 else 0) = 0 → (∃ k1, k1 < k ∧ I_da b e F i jo r p s A X G T a d c E ea fi sz R S k1 [(2, .inl ((lmI k) + (-1 : Int32))), (0, .inr (.inr (some b))), (1, .inr (.inr (some e)))] [] S1 cs sl)) ∧ (¬ (if mI S1 514 a_10 = -1 then 1 else 0) = 0 → (pa (L_7[i_3]?) fun a_12 => isO S1 5 a_12 ∧ (0 = 0 ∧ (∃ (ix_13 : Nat), mI S1 515 a_12 = nI ix_13 ∧ (∃ (F_14 : Nat → Nat × Nat) (i_15 jo_16 r_17 p_18 : Nat) (A_19 : Nat → Nat) (X_20 : GX) (G_21 : Gr) (T_22 : Tr) (H_23 : List Nat) (W_24 : Nat → Nat) (oc_25 : Option Nat) (s_26 : Nat), (WrR S1 F_14 i_15 jo_16 b r_17 p_18 A_19 X_20 G_21 T_22 H_23 W_24 ∧ OwP G_21 T_22 p_18 oc_25 ix_13 s_26 ∧ (-1 : Int32) = chI oc_25) ∧ cs + (enC G_21 s_26) ≤ runC G s (cuN G fi sz) ∧ sl + (enZ G_21 s_26) ≤ runZ G s (cuN G fi sz) ∧ (∀ (S_27 : MM), (wrQ S1 S_27 F_14 i_15 r_17 A_19 X_20 G_21 T_22 H_23 p_18 oc_25 ix_13 s_26) → (∃ k1, k1 < k ∧ I_da b e F i jo r p s A X G T a d c E ea fi sz R S k1 [(2, .inl ((lmI k) + (-1 : Int32))), (0, .inr (.inr (some b))), (1, .inr (.inr (some e)))] [] S_27 (cs + (enC G_21 s_26)) (sl + (enZ G_21 s_26)))))))))))))))))))))))))))
    obtain ⟨hW, h1, hE, h2, h3, rfl, h4, h5, h6, h7, h8⟩ := hp
    obtain ⟨q1, q2, q3, q4, q5, q6, q7, q8, q9, q10, q11⟩ := id hQ
    obtain ⟨w1, w2, w3, w4, w5, w6, w7, w8, wG, wF, wi, wj, wj0⟩ := id q1
    obtain ⟨e1, e2, e3, e4⟩ := q3.at h4
    have gn := wG.ok.hn
    have hops : ops.length ≤ cuN G fi sz := by omega
    have mono : ∀ j, j ≤ cuN G fi sz → runC G s j ≤ runC G s (cuN G fi sz) ∧ runZ G s j ≤ runZ G s (cuN G fi sz) := fun j hj => by
      obtain ⟨t, ht⟩ : ∃ t, cuN G fi sz = j + t := ⟨cuN G fi sz - j, by omega⟩
      rw [ht]
      exact runC_mono G s j t
    have mo := mono _ hops
    cases k with
    | zero =>
      refine ⟨fun _ => ⟨rfl, trivial, ⟨rfl, ops, F1, A1, X1, G1, T1, H1, W1, hQ, hun _ _ ⟨rfl, rfl⟩⟩, Nat.le_trans hcs mo.1, Nat.le_trans hsl mo.2⟩, fun z => absurd (by decide : (-1 : Int32) < 0) z⟩
    | succ k =>
      refine if_lt (a := k) (b := 0) (by omega) (by decide) (fun z => absurd z (Nat.not_lt_zero _)) (fun _ => ?_)
      have hl : fi + k < G.n := by omega
      have hl1 : fi + k < G1.n := by omega
      have el : ((List.range G1.n).map X1.ad).length = G1.n := by rw [List.length_map, List.length_range]
      have e5 : ((List.range G1.n).map X1.ad)[fi + k]? = some (X.ad (fi + k)) := by
        rw [List.getElem?_map, List.getElem?_range hl1]
        exact congrArg some (q8 _ hl)
      have o5 : isO S1 5 (X.ad (fi + k)) := by
        have := (wG.ev.2.1 (fi + k) hl1).1
        rw [q8 _ hl] at this; exact this
      have hc : (G1.ev (fi + k)).ch ≠ none := by rw [hch _ hl]; exact (h7 k (by omega)).1
      have s514 : mI S1 514 (X.ad (fi + k)) = stI (stk G1 (fi + k)) := by
        have := wG 15 _ hl1 hc
        rw [q8 _ hl] at this; exact this
      have sm : stI (stk G1 (fi + k)) = -1 ↔ stk G1 (fi + k) = none := stI_m1 (fun l hl9 => by have := (Gr.stk_lt wG.gt.2.1 hl9).1; omega)
      refine ⟨w1, pa_i w4 ⟨(wG 0).1, e1, rfl, pa_i (wG 2).1 ⟨fi + k, by rw [e3]; exact nI_add fi k, A1 3, capF G1.n, 5, _, ⟨(wG 2).2.2.2, by rw [el]; exact hl1⟩, Nat.le_trans hcs mo.1, Nat.le_trans hsl mo.2, ?_⟩⟩⟩
      rw [e5]
      refine ⟨(fun w hw => by cases hw; exact o5), rfl, o5, Nat.le_trans hcs mo.1, Nat.le_trans hsl mo.2, fun z => ?_, fun z => ?_⟩
      · have hvis : vis G1 (fi + k + 1) = false := by
          by_cases u : stI (stk G1 (fi + k)) = -1
          · rw [s514, if_pos u] at z; exact absurd z (by decide)
          · refine decide_eq_false (fun w => u (sm.2 ?_))
            rw [Nat.add_sub_cancel] at w; exact w
        exact ⟨k, by omega, k, ops, F1, A1, X1, G1, T1, H1, W1, rfl, by omega, by rw [show lmI (k + 1) = nI k from rfl, lmI_dec], rfl, hQ, hR, hv, hm1, fun k' hk' => hm2 k' (by omega), by have := cuN_mono (G := G) (fi := fi) (show k ≤ k + 1 by omega); omega, fun G' T' q => hun G' T' (Or.inr ⟨hvis, q⟩), hch, hcs, hsl⟩
      · have hvis : vis G1 (fi + k + 1) = true := by
          by_cases u : stI (stk G1 (fi + k)) = -1
          · refine decide_eq_true ?_
            rw [Nat.add_sub_cancel]; exact sm.1 u
          · rw [s514, if_neg u] at z; exact absurd rfl z
        have hvg := hm1 _ hvis
        obtain ⟨r1, r2⟩ := (h7 k (by omega)).2 hvg
        have rk : mI S1 515 (X.ad (fi + k)) = nI (R k) := by
          have o0 : isO S 5 (X.ad (fi + k)) := (hW.2.2.2.2.2.2.2.2.1.ev.2.1 (fi + k) hl).1
          rw [hR _ o0]; exact r1
        have cu1 : cuN G fi (k + 1) = cuN G fi k + 1 := by
          have hs9 : stk G (fi + k) = none := by
            have := of_decide_eq_true hvg
            rw [Nat.add_sub_cancel] at this; exact this
          have hx9 : cuX G (fi + k) = true := decide_eq_true (Or.inr hs9)
          rw [cuN, if_pos hx9]
        have rb := hm2 k (by omega) hvg
        have hs1 := hQ.sl h3
        obtain ⟨cc, cz⟩ := hQ.cost
        have mo1 := mono (ops.length + 1) (by omega)
        refine ⟨o5, rfl, R k, rk, F1, i, jo, r, p, A1, X1, G1, T1, H1, W1, none, s, ⟨q1, ⟨by omega, h2, hs1, (fun c w => by cases w), fun _ => by omega⟩, rfl⟩, by omega, by omega, fun S2 hS2 => ?_⟩
        obtain ⟨F2, A2, X2, G2, T2, H2, W2, hQ2, hst, hR2⟩ := hQ.wr hS2 hs1
        have hd : HdS G1 H1 := wG 20
        have vd := hst.visD (hs1.gt wG.gt h2) (hd.jn wG.ok)
        have ln : (ops ++ [(none, R k)] : List (Option Nat × Nat)).length = ops.length + 1 := by rw [List.length_append, List.length_singleton]
        refine ⟨k, by omega, k, ops ++ [(none, R k)], F2, A2, X2, G2, T2, H2, W2, rfl, by omega, by rw [show lmI (k + 1) = nI k from rfl, lmI_dec], rfl, hQ2, hR.tr q5 hR2, by rw [ln]; omega, fun k' hk' => hm1 k' (hst.visM hk'), fun k' hk' hv' => ?_, by rw [ln]; omega, fun G' T' q => hun G' T' (Or.inl ⟨hvis, G2, T2, ⟨H1, hd, hst⟩, q⟩), fun k' hk' => by rw [hst.old (by omega)]; exact hch k' hk', by rw [ln]; omega, by rw [ln]; omega⟩
        have := h8 k' k hk' (by omega) hv' hvg
        rw [ln]; omega
theorem u_pda (l : Launch) : Us l yX10_deleteAgain cX10_deleteAgain 4 none 9 219 11 T_pda := by
  intro Rc Rs av S cs sl K Kx h
  unfold T_pda at h
  split at h
  · rename_i b_o e_o
    obtain ⟨b, rfl, h_1⟩ := pa_of h
    obtain ⟨e, rfl, h_2⟩ := pa_of h_1
    obtain ⟨F, i, jo, r, p, s, A, X, G, T, H, W, a, d, c, E, ea, l9, fi, sz, R, hp, hc, hs, hk⟩ := h_2
    refine ⟨(sp_pda b e F i jo r p s A X G T H W a d c E ea l9 fi sz R), c_pda l b e F i jo r p s A X G T H W a d c E ea l9 fi sz R, fun _ _ h9 => ⟨_, _, h9.1, h9.2.1.1⟩, ⟨rfl, hp⟩, hc, hs, fun S' h8 => by
      obtain ⟨-, h8⟩ := h8
      exact hk _ h8, fun _ _ q => q.elim⟩
  · exact h.elim
