/-! ===== Peer.insertText ===== -/
def insO (ix : Nat) : List Nat → List (Option Nat × Nat)
  | [] => []
  | c :: L => (some c, ix) :: insO (ix + 1) L
theorem insO_len (ix : Nat) (L : List Nat) : (insO ix L).length = L.length := by
  induction L generalizing ix with
  | nil => rfl
  | cons c L ih => rw [insO, List.length_cons, List.length_cons, ih]
theorem insO_snoc (ix c : Nat) (L : List Nat) : insO ix (L ++ [c]) = insO ix L ++ [(some c, ix + L.length)] := by
  induction L generalizing ix with
  | nil => rfl
  | cons d L ih =>
    rw [List.cons_append, insO, insO, ih, List.length_cons, List.cons_append, show ix + 1 + L.length = ix + (L.length + 1) by omega]
def I_it (b tx ix n : Nat) (F : Nat → Nat × Nat) (i jo r p s : Nat) (A : Nat → Nat) (X : GX) (G : Gr) (T : Tr) (a d c : Nat) (E : List (Nat × Nat)) (ea : Nat → Nat) (B L : List Nat) (S : MM) (t : Nat) : KT := fun lo st S1 cs sl => ∃ j pl f F1 A1 X1 G1 T1 H1 W1, j + t = n ∧ pl ≤ 40000 ∧ symsF B f pl = some ((L.drop j).map nI) ∧ lo = [(5, .inl (nI j)), (4, .inl (nI pl)), (0, .inr (.inr (some b))), (1, .inr (.inr (some tx))), (2, .inl (nI ix)), (3, .inl (nI n))] ∧ st = [] ∧ RnQ S S1 F i jo b r p s A X G T a d c E ea (insO ix (L.take j)) F1 A1 X1 G1 T1 H1 W1 ∧ visN G1 T1 = visN G T + j ∧ cs ≤ runC G s j ∧ sl ≤ runZ G s j
def itQ (S S' : MM) (F : Nat → Nat × Nat) (i jo b r p s : Nat) (A : Nat → Nat) (X : GX) (G : Gr) (T : Tr) (a d c : Nat) (E : List (Nat × Nat)) (ea : Nat → Nat) (ops : List (Option Nat × Nat)) : Prop := ∃ F' A' X' G' T' H' W', WrR S' F' i jo b r p A' X' G' T' H' W' ∧ mR S' 1102 b = some a ∧ ((ops.length = 0 ∧ EdL S' F' jo a d c E ea) ∨ (ops.length ≠ 0 ∧ ∃ d' ea', EdL S' F' jo a d' (alK c E.length) (E ++ [(G.n, ops.length)]) ea')) ∧ (∀ c, c ∈ mL S → F' c = F c) ∧ Keep (fun c => (F c).1 = i ∨ jo3 jo (F c)) S S' ∧ Run p s ops G T G' T' ∧ A' 0 = A 0 ∧ ∀ l, l < G.n → X'.ad l = X.ad l
def T_pit : TR := fun Rc Rs av S cs sl K _Kx => match av with
  | [.inr (.inr b_o), .inr (.inr tx_o), .inl ix_v, .inl n_v] => pa b_o fun b => (pa tx_o fun tx => (∃ (ix : Nat), ix_v = nI ix ∧ (∃ (n : Nat), n_v = nI n ∧ (∃ (F : Nat → Nat × Nat) (i jo r p s : Nat) (A : Nat → Nat) (X : GX) (G : Gr) (T : Tr) (H : List Nat) (W : Nat → Nat) (a d c : Nat) (E : List (Nat × Nat)) (ea : Nat → Nat) (td : Nat) (B L : List Nat), (WrR S F i jo b r p A X G T H W ∧ mR S 1102 b = some a ∧ EdL S F jo a d c E ea ∧ c ≤ 50000 ∧ p < 256 ∧ (n ≠ 0 → OwSl G p s) ∧ G.n + n ≤ 8192 ∧ ix ≤ visN G T ∧ By S tx td B ∧ (F tx).1 ≠ i ∧ (F td).1 ≠ i ∧ syms B = some (L.map nI) ∧ n = L.length ∧ (∀ x ∈ L, x ≤ 1114111)) ∧ cs + (runC G s n + ekC c E.length n) ≤ Rc ∧ sl + (runZ G s n + ekZ c E.length n) ≤ Rs ∧ (∀ (S' : MM), (itQ S S' F i jo b r p s A X G T a d c E ea (insO ix L)) → K none S' (cs + (runC G s n + ekC c E.length n)) (sl + (runZ G s n + ekZ c E.length n)))))))
  | _ => False
def sp_pit (b : Nat) (tx : Nat) (ix : Nat) (n : Nat) (F : Nat → Nat × Nat) (i jo r p s : Nat) (A : Nat → Nat) (X : GX) (G : Gr) (T : Tr) (H : List Nat) (W : Nat → Nat) (a d c : Nat) (E : List (Nat × Nat)) (ea : Nat → Nat) (td : Nat) (B L : List Nat) : Sp := (fun av S => av = [.inr (.inr (some b)), .inr (.inr (some tx)), .inl (nI ix), .inl (nI n)] ∧ (WrR S F i jo b r p A X G T H W ∧ mR S 1102 b = some a ∧ EdL S F jo a d c E ea ∧ c ≤ 50000 ∧ p < 256 ∧ (n ≠ 0 → OwSl G p s) ∧ G.n + n ≤ 8192 ∧ ix ≤ visN G T ∧ By S tx td B ∧ (F tx).1 ≠ i ∧ (F td).1 ≠ i ∧ syms B = some (L.map nI) ∧ n = L.length ∧ (∀ x ∈ L, x ≤ 1114111)), fun _ S => runC G s n + ekC c E.length n, fun _ S => runZ G s n + ekZ c E.length n, fun _ S rv S' => rv = none ∧ (itQ S S' F i jo b r p s A X G T a d c E ea (insO ix L)), fun _ _ _ _ => False)
def tX10_insertText : CD := [(0, .iconst 0), (1, .istore 4), (3, .iconst 0), (4, .istore 5), (6, .iload 5), (8, .iload_n 3), (9, .if_icmp .ge 37), (12, .aload_n 1), (13, .iload 4), (15, .invokevirtual 51), (18, .istore 6), (20, .iload 4), (22, .iload 6), (24, .invokestatic 57), (27, .iadd), (28, .istore 4), (30, .aload_n 0), (31, .iload 6), (33, .iload_n 2), (34, .iload 5), (36, .iadd), (37, .invokevirtual 60), (40, .iinc 5 1), (43, .goto (-37)), (46, .aload_n 0), (47, .iload_n 3), (48, .invokevirtual 64), (51, .return_)]
set_option maxRecDepth 100000 in
theorem kX10_insertText : chk cX10_insertText tX10_insertText = true := by decide +kernel
theorem vX10_insertText_51 : ∀ w ∈ ([.methodLink RX10 51 yX1_symbolAt, .instanceMethod yX1_symbolAt, .selects yX1_symbolAt.cls yX1_symbolAt yX1_symbolAt, .initialized yX1_symbolAt.cls, .code yX1_symbolAt cX1_symbolAt 7 (some .int)] : List Cond), w ∈ lw_good := List.forall_mem_cons.mpr ⟨mgd 865 (by decide +kernel) (by decide +kernel), List.forall_mem_cons.mpr ⟨mgd 836 (by decide +kernel) (by decide +kernel), List.forall_mem_cons.mpr ⟨mgd 837 (by decide +kernel) (by decide +kernel), List.forall_mem_cons.mpr ⟨mgd 122 (by decide +kernel) (by decide +kernel), List.forall_mem_cons.mpr ⟨mgd 838 (by decide +kernel) (by decide +kernel), fun _ h => absurd h List.not_mem_nil⟩⟩⟩⟩⟩
theorem vX10_insertText_57 : ∀ w ∈ ([.methodLink RX10 57 yX1_widthOf, .static yX1_widthOf, .initialized yX1_widthOf.cls, .code yX1_widthOf cX1_widthOf 1 (some .int)] : List Cond), w ∈ lw_good := List.forall_mem_cons.mpr ⟨mgd 866 (by decide +kernel) (by decide +kernel), List.forall_mem_cons.mpr ⟨mgd 850 (by decide +kernel) (by decide +kernel), List.forall_mem_cons.mpr ⟨mgd 122 (by decide +kernel) (by decide +kernel), List.forall_mem_cons.mpr ⟨mgd 851 (by decide +kernel) (by decide +kernel), fun _ h => absurd h List.not_mem_nil⟩⟩⟩⟩
theorem vX10_insertText_60 : ∀ w ∈ ([.methodLink RX10 60 yX10_write, .instanceMethod yX10_write, .selects yX10_write.cls yX10_write yX10_write, .initialized yX10_write.cls, .code yX10_write cX10_write 5 none] : List Cond), w ∈ lw_good := List.forall_mem_cons.mpr ⟨mgd 867 (by decide +kernel) (by decide +kernel), List.forall_mem_cons.mpr ⟨mgd 869 (by decide +kernel) (by decide +kernel), List.forall_mem_cons.mpr ⟨mgd 2 (by decide +kernel) (by decide +kernel), List.forall_mem_cons.mpr ⟨mgd 124 (by decide +kernel) (by decide +kernel), List.forall_mem_cons.mpr ⟨mgd 870 (by decide +kernel) (by decide +kernel), fun _ h => absurd h List.not_mem_nil⟩⟩⟩⟩⟩
theorem vX10_insertText_64 : ∀ w ∈ ([.methodLink RX10 64 yX10_keepEdit, .instanceMethod yX10_keepEdit, .selects yX10_keepEdit.cls yX10_keepEdit yX10_keepEdit, .initialized yX10_keepEdit.cls, .code yX10_keepEdit cX10_keepEdit 2 none] : List Cond), w ∈ lw_good := List.forall_mem_cons.mpr ⟨mgd 1032 (by decide +kernel) (by decide +kernel), List.forall_mem_cons.mpr ⟨mgd 1034 (by decide +kernel) (by decide +kernel), List.forall_mem_cons.mpr ⟨mgd 16 (by decide +kernel) (by decide +kernel), List.forall_mem_cons.mpr ⟨mgd 124 (by decide +kernel) (by decide +kernel), List.forall_mem_cons.mpr ⟨mgd 1035 (by decide +kernel) (by decide +kernel), fun _ h => absurd h List.not_mem_nil⟩⟩⟩⟩⟩
set_option maxRecDepth 100000 in
set_option maxHeartbeats 2000000 in
theorem c_pit (l : Launch) : ∀ (b : Nat) (tx : Nat) (ix : Nat) (n : Nat) (F : Nat → Nat × Nat) (i jo r p s : Nat) (A : Nat → Nat) (X : GX) (G : Gr) (T : Tr) (H : List Nat) (W : Nat → Nat) (a d c : Nat) (E : List (Nat × Nat)) (ea : Nat → Nat) (td : Nat) (B L : List Nat), Ct l yX10_insertText cX10_insertText 7 none 9 219 (sp_pit b tx ix n F i jo r p s A X G T H W a d c E ea td B L) := by
  intro b tx ix n F i jo r p s A X G T H W a d c E ea td B L
  refine Ct.of (fX10, nX10, aX10, iX10, lX10, [(51, 0, 2, 1, T_sym), (57, 2, 1, 1, T_wof), (60, 0, 3, 0, T_pwr), (64, 0, 2, 0, T_pke)], qX10, gX10, []) false tX10_insertText (fun _ S => look [(6, ([5,4,0,1,2,3], I_it b tx ix n F i jo r p s A X G T a d c E ea B L S))]) (by decide) (by decide) kX10_insertText ⟨_, _, rfl⟩ fX10_ok nX10_ok aX10_ok iX10_ok lX10_ok (fun p e R s m args below meth c Q D cy z r A C hR1 hR2 => List.forall_mem_cons.mpr ⟨cOK_use (fun _ _ _ _ _ _ _ _ h => let ⟨sp, h1, h2, h3⟩ := u_sym l _ _ _ _ _ _ _ _ h; ⟨sp, cOK_V C h1 vX10_insertText_51 ⟨by decide, by decide, by decide +kernel⟩ ⟨by rw [hR1]; decide, by rw [hR2]; decide⟩ (k := 2) (T := TX1) (N := 3) rfl (by decide) h2, h3⟩), List.forall_mem_cons.mpr ⟨cOK_use (fun _ _ _ _ _ _ _ _ h => let ⟨sp, h1, _, h3⟩ := u_wof l _ _ _ _ _ _ _ _ h; ⟨sp, cOK_S C h1 vX10_insertText_57 ⟨by decide, by decide, by decide +kernel⟩ ⟨by rw [hR1]; decide, by rw [hR2]; decide⟩, h3⟩), List.forall_mem_cons.mpr ⟨cOK_use (fun _ _ _ _ _ _ _ _ h => let ⟨sp, h1, h2, h3⟩ := u_pwr l _ _ _ _ _ _ _ _ h; ⟨sp, cOK_V C h1 vX10_insertText_60 ⟨by decide, by decide, by decide +kernel⟩ ⟨by rw [hR1]; decide, by rw [hR2]; decide⟩ (k := 11) (T := TX10) (N := 6) rfl (by decide) h2, h3⟩), List.forall_mem_cons.mpr ⟨cOK_use (fun _ _ _ _ _ _ _ _ h => let ⟨sp, h1, h2, h3⟩ := u_pke l _ _ _ _ _ _ _ _ h; ⟨sp, cOK_V C h1 vX10_insertText_64 ⟨by decide, by decide, by decide +kernel⟩ ⟨by rw [hR1]; decide, by rw [hR2]; decide⟩ (k := 11) (T := TX10) (N := 6) rfl (by decide) h2, h3⟩), fun _ h => absurd h List.not_mem_nil⟩⟩⟩⟩) qX10_ok gX10_ok rfl ?_ ?_
  · rintro _ S ⟨rfl, hp⟩
    refine ⟨Nat.le_of_ble_eq_true rfl, 300, ?_⟩
    show (∃ k1, I_it b tx ix n F i jo r p s A X G T a d c E ea B L S k1 [(5, .inl (0 : Int32)), (4, .inl (0 : Int32)), (0, .inr (.inr (some b))), (1, .inr (.inr (some tx))), (2, .inl (nI ix)), (3, .inl (nI n))] [] S 0 0)
    obtain ⟨hW, h1, hE, h2, h3, h4, h5, h6, hB, hx1, hx2, hs, rfl, hc⟩ := hp
    exact ⟨L.length, 0, 0, B.length, F, A, X, G, T, H, W, by omega, by omega, hs, rfl, rfl, ⟨hW, h1, hE, fun _ _ => rfl, Keep.rf, ⟨rfl, rfl⟩, rfl, fun _ _ => rfl, rfl, rfl, Or.inr ⟨rfl, rfl⟩⟩, rfl, Nat.zero_le _, Nat.zero_le _⟩
  · intro av S hpre pc I hI k lo st S1 cs sl h
    obtain ⟨rfl, hp⟩ := hpre
    have hm := look_in hI
    rw [List.mem_singleton] at hm
    cases hm
    obtain ⟨j, pl, f, F1, A1, X1, G1, T1, H1, W1, hj, hpl, hsy, rfl, rfl, hQ, hv, hcs, hsl⟩ := h
    refine ⟨300, ?_⟩
    show (((nI n) ≤ (nI j) → (0 = 0 ∧ (∃ (n_1 : Nat), nI n = nI n_1 ∧ (∃ (F_2 : Nat → Nat × Nat) (jo_3 a_4 d_5 c_6 : Nat) (E_7 : List (Nat × Nat)) (ea_8 : Nat → Nat) (g_9 tk_10 td_11 tc_12 : Nat) (L_13 : List Nat), (isO S1 11 b ∧ mR S1 1102 b = some a_4 ∧ EdL S1 F_2 jo_3 a_4 d_5 c_6 E_7 ea_8 ∧ c_6 ≤ 50000 ∧ mR S1 1101 b = some g_9 ∧ isO S1 6 g_9 ∧ mR S1 601 g_9 = some tk_10 ∧ AL S1 tk_10 td_11 tc_12 5 L_13 ∧ n_1 ≤ L_13.length ∧ FO S1 F_2 ∧ jo_3 ≠ 0) ∧ cs + (ekC c_6 E_7.length n_1) ≤ runC G s n + ekC c E.length n ∧ sl + (ekZ c_6 E_7.length n_1) ≤ runZ G s n + ekZ c E.length n ∧ (∀ (S_14 : MM), (ekP S1 S_14 F_2 jo_3 a_4 d_5 c_6 E_7 ea_8 L_13.length n_1) → (([] : List MV) = [] ∧ mret none (sp_pit b tx ix n F i jo r p s A X G T H W a d c E ea td B L) [.inr (.inr (some b)), .inr (.inr (some tx)), .inl (nI ix), .inl (nI n)] S none S_14 (cs + (ekC c_6 E_7.length n_1)) (sl + (ekZ c_6 E_7.length n_1)))))))) ∧ (¬ (nI n) ≤ (nI j) → (0 = 0 ∧ (∃ (n_15 : Nat), nI pl = nI n_15 ∧ (∃ (d_16 : Nat) (B_17 : List Nat), (By S1 tx d_16 B_17 ∧ n_15 ≤ 1000000) ∧ cs ≤ runC G s n + ekC c E.length n ∧ sl ≤ runZ G s n + ekZ c E.length n ∧ ((2 = 2 ∧ (True ∧ cs ≤ runC G s n + ekC c E.length n ∧ sl ≤ runZ G s n + ekZ c E.length n ∧ ((0 = 0 ∧ (∃ (ix_20 : Nat), (nI ix) + (nI j) = nI ix_20 ∧ (∃ (F_21 : Nat → Nat × Nat) (i_22 jo_23 r_24 p_25 : Nat) (A_26 : Nat → Nat) (X_27 : GX) (G_28 : Gr) (T_29 : Tr) (H_30 : List Nat) (W_31 : Nat → Nat) (oc_32 : Option Nat) (s_33 : Nat), (WrR S1 F_21 i_22 jo_23 b r_24 p_25 A_26 X_27 G_28 T_29 H_30 W_31 ∧ OwP G_28 T_29 p_25 oc_32 ix_20 s_33 ∧ (symAt B_17 n_15) = chI oc_32) ∧ cs + (enC G_28 s_33) ≤ runC G s n + ekC c E.length n ∧ sl + (enZ G_28 s_33) ≤ runZ G s n + ekZ c E.length n ∧ (∀ (S_34 : MM), (wrQ S1 S_34 F_21 i_22 r_24 A_26 X_27 G_28 T_29 H_30 p_25 oc_32 ix_20 s_33) → (∃ k1, k1 < k ∧ I_it b tx ix n F i jo r p s A X G T a d c E ea B L S k1 [(5, .inl ((nI j) + (1 : Int32))), (4, .inl ((nI pl) + (wOf (symAt B_17 n_15)))), (0, .inr (.inr (some b))), (1, .inr (.inr (some tx))), (2, .inl (nI ix)), (3, .inl (nI n))] [] S_34 (cs + (enC G_28 s_33)) (sl + (enZ G_28 s_33))))))))))))))))
    obtain ⟨hW, h1, hE, h2, h3, h4, h5, h6, hB, hx1, hx2, hs, rfl, hc⟩ := hp
    obtain ⟨q1, q2, q3, q4, q5, q6, q7, q8, q9, q10, q11⟩ := hQ
    have tl : (insO ix (L.take j)).length = j := by rw [insO_len, List.length_take]; omega
    rw [tl] at q9 q10
    obtain ⟨w1, w2, w3, w4, w5, w6, w7, w8, wG, wF, wi, wj, wj0⟩ := id q1
    have gv : visN G T ≤ 8192 := by
      have a1 := hW.2.2.2.2.2.2.2.2.1.odl
      have a2 := hW.2.2.2.2.2.2.2.2.1.ok.hn
      have a3 := List.length_filter_le (vis G) T.od
      rw [visN]; omega
    have r8 := hW.2.2.2.2.2.2.2.1
    refine if_le (by omega) (by omega) (fun z => ?_) (fun z => ?_)
    · have hjn : j = L.length := by omega
      subst hjn
      rw [List.take_length] at q6 q11
      have hL : ((List.range G1.n).map X1.ad).length = G1.n := by rw [List.length_map, List.length_range]
      refine ⟨rfl, L.length, rfl, F1, jo, a, d, c, E, ea, A1 0, A1 2, A1 3, capF G1.n, (List.range G1.n).map X1.ad, ⟨w1, q2, q3, h2, w4, (wG 0).1, (wG 2).1, (wG 2).2.2.2, by rw [hL]; omega, wF, wj0⟩, by omega, by omega, fun S2 hS2 => ⟨rfl, trivial, ⟨rfl, ?_⟩, by show _ ≤ runC G s L.length + ekC c E.length L.length; omega, by show _ ≤ runZ G s L.length + ekZ c E.length L.length; omega⟩⟩
      rw [hL] at hS2
      have k8 : Keep (fun c => (F c).1 = i ∨ jo3 jo (F c)) S S1 := q5.mono (fun x _ w => w.imp id (fun v => by rw [v, r8]; exact Or.inr (Or.inr rfl)))
      rcases hS2 with ⟨z1, rfl⟩ | ⟨z1, F2, d2, ea2, y1, y2, y3, y4⟩
      · exact ⟨F1, A1, X1, G1, T1, H1, W1, q1, q2, Or.inl ⟨by rw [insO_len]; exact z1, q3⟩, q4, k8, q6, q7, q8⟩
      · have e1 : G1.n - L.length = G.n := by omega
        rw [e1] at y1
        have nI : ∀ x, (F1 x).1 = i → ¬ (F1 x = (jo, 2) ∨ F1 x = (jo, 3)) := fun x hx w => w.elim (fun v => wj (by rw [v] at hx; exact hx)) (fun v => wj (by rw [v] at hx; exact hx))
        have g2 : GI S2 F2 i A1 X1 G1 T1 H1 W1 := wG.keep y4 nI wF wi y3
        have nb : ¬ (F1 b = (jo, 2) ∨ F1 b = (jo, 3)) := fun w => by
          rw [w2] at w
          rcases w with v | v <;> (injection v with _ u; exact absurd u (by decide))
        have kb := y4.2.1 b w1.1 nb
        have k9 : Keep (fun c => (F c).1 = i ∨ jo3 jo (F c)) S S2 := by
          refine k8.trN y4 (fun x hx w => Or.inr ?_)
          rw [← q4 x hx]
          rcases w with v | v
          · exact Or.inl v
          · exact Or.inr (Or.inl v)
        exact ⟨F2, A1, X1, G1, T1, H1, W1, ⟨y4.isO w1, (y3 b w1.1).trans w2, (kb.1 1100).trans w3, (kb.2.1 1101).trans w4, (kb.2.1 1104).trans w5, y4.isO w6, (y4.1 r w6.1).2.2.trans w7, (y3 r w6.1).trans w8, g2, y2, wi, wj, wj0⟩, (kb.2.1 1102).trans q2, Or.inr ⟨by rw [insO_len]; exact z1, d2, ea2, by rw [insO_len]; exact y1⟩, fun x hx => (y3 x (q5.1 x hx).1).trans (q4 x hx), k9, q6, q7, q8⟩
    · have hBk : By S1 tx td B := hB.keep q5 (fun w => w.elim hx1 (fun v => isO_ne hB.1 hW.2.2.2.2.2.1 (by decide) v)) (fun w => w.elim hx2 (fun v => isO_ne hB.2.2.1 hW.2.2.2.2.2.1 (by decide) v))
      have hdr : L.drop j = L[j] :: L.drop (j + 1) := List.drop_eq_getElem_cons z
      rw [hdr, List.map_cons] at hsy
      obtain ⟨f2, hplB, hsy1, hsy2⟩ : ∃ f2, pl < B.length ∧ symAt B pl = nI L[j] ∧ symsF B f2 (pl + wN (nI L[j])) = some ((L.drop (j + 1)).map nI) := by
        cases f with
        | zero => cases hsy
        | succ f =>
          rw [symsF] at hsy
          split at hsy
          · rename_i hpB
            split at hsy
            · cases hsy
            · cases h9 : symsF B f (pl + wN (symAt B pl)) with
              | none => rw [h9] at hsy; cases hsy
              | some M =>
                rw [h9] at hsy
                injection hsy with hsy
                injection hsy with e1 e2
                exact ⟨f, hpB, e1, by rw [← e1, h9, e2]⟩
          · cases hsy
      have hBl := hB.len
      have wl := wN_le (nI L[j])
      have lc := hc L[j] (List.getElem_mem _)
      have hsl9 : OwSl G1 p s := by
        rcases q11 with w | ⟨-, w⟩
        · exact Or.inl w
        · rw [w]; exact h4 (by omega)
      have l3 : s < G1.m ∨ (j = 0 ∧ ¬ s < G.m) := by
        rcases q11 with w | ⟨w, v⟩
        · exact Or.inl w.1
        · have j0 : j = 0 := by
            have := congrArg List.length w
            rw [tl] at this; exact this
          by_cases u : s < G.m
          · exact Or.inl (by rw [v]; exact u)
          · exact Or.inr ⟨j0, u⟩
      have l4 : s < G.m → s < G1.m := fun u => by
        rcases q11 with w | ⟨-, v⟩
        · exact w.1
        · rw [v]; exact u
      obtain ⟨rc, rz⟩ := runC_s q9 q10 l3 l4
      obtain ⟨t, ht⟩ : ∃ t, L.length = (j + 1) + t := ⟨L.length - (j + 1), by omega⟩
      obtain ⟨mc, mz⟩ := runC_mono G s (j + 1) t
      rw [← ht] at mc mz
      refine ⟨rfl, pl, rfl, td, B, ⟨hBk, by omega⟩, by omega, by omega, ?_⟩
      rw [hsy1]
      refine ⟨rfl, trivial, by omega, by omega, rfl, ix + j, nI_add ix j, F1, i, jo, r, p, A1, X1, G1, T1, H1, W1, some L[j], s, ⟨q1, ⟨by omega, h3, hsl9, (fun c w => by cases w; exact ⟨by omega, by omega⟩), (fun w => by cases w)⟩, rfl⟩, by omega, by omega, fun S2 hS2 => ?_⟩
      obtain ⟨F2, A2, X2, G2, T2, H2, W2, y1, y2, y3, y4, y5, y6, y7, -⟩ := hS2
      obtain ⟨n1, n2, n3, n4, -⟩ := y5.nx hsl9.eg
      have hd : HdS G1 H1 := wG 20
      have vd := y5.visI (fun w => by cases w) (hsl9.gt wG.gt h3) (fun x hx => ((hd.1 x).1 hx).1)
      have nP : ∀ {x rl : Nat}, F1 x = (jo, rl) → rl ≠ 5 → ¬ ((F1 x).1 = i ∨ x = r) := fun hx hr w => w.elim (fun v => wj (by rw [hx] at v; exact v)) (fun v => f_ne hx w8 hr v)
      have ed := q3.keep y4 (nP q3.2.1 (by decide)) (fun w => nP (q3.2.2.1 w) (by decide)) (fun l hl => nP (q3.2.2.2 l hl).2.1 (by omega)) y3
      have kb := y4.2.1 b w1.1 (nP w2 (by decide))
      have tk : L.take (j + 1) = L.take j ++ [L[j]] := List.take_succ_eq_append_getElem z
      have lt9 : (L.take j).length = j := by rw [List.length_take]; omega
      refine ⟨k - 1, by omega, j + 1, pl + wN (nI L[j]), f2, F2, A2, X2, G2, T2, H2, W2, by omega, by omega, hsy2, by rw [nI_1, wOf_N, nI_add], rfl, ⟨q1.nx y1 y2 y3 y4 y6, (kb.2.1 1102).trans q2, ed, fun x hx => (y3 x (q5.1 x hx).1).trans (q4 x hx), q5.trN y4 (fun x hx w => w.imp (fun v => by rw [← q4 x hx]; exact v) id), ?_, y6.trans q7, fun l hl => (y7 l (by omega)).trans (q8 l hl), ?_, ?_, Or.inl ⟨n3, n4⟩⟩, by omega, by omega, by omega⟩
      · rw [tk, insO_snoc, lt9]
        exact q6.snoc ⟨H1, hd, y5⟩
      · rw [insO_len, List.length_take, n1, q9]; omega
      · rw [insO_len, List.length_take, n2, q10]; omega
theorem u_pit (l : Launch) : Us l yX10_insertText cX10_insertText 7 none 9 219 11 T_pit := by
  intro Rc Rs av S cs sl K Kx h
  unfold T_pit at h
  split at h
  · rename_i b_o tx_o ix_v n_v
    obtain ⟨b, rfl, h_1⟩ := pa_of h
    obtain ⟨tx, rfl, h_2⟩ := pa_of h_1
    obtain ⟨ix, rfl, h_3⟩ := h_2
    obtain ⟨n, rfl, h_4⟩ := h_3
    obtain ⟨F, i, jo, r, p, s, A, X, G, T, H, W, a, d, c, E, ea, td, B, L, hp, hc, hs, hk⟩ := h_4
    refine ⟨(sp_pit b tx ix n F i jo r p s A X G T H W a d c E ea td B L), c_pit l b tx ix n F i jo r p s A X G T H W a d c E ea td B L, fun _ _ h9 => ⟨_, _, h9.1, h9.2.1.1⟩, ⟨rfl, hp⟩, hc, hs, fun S' h8 => by
      obtain ⟨-, h8⟩ := h8
      exact hk _ h8, fun _ _ q => q.elim⟩
  · exact h.elim
