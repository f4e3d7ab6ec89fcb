/-! ===== Peer.insertAgain ===== -/
def iaO (G : Gr) (fi : Nat) (R : Nat → Nat) (n : Nat) : List (Option Nat × Nat) := (List.range n).map (fun k => ((G.ev (G.ev (fi + k)).tg).ch, R k + k))
theorem iaO_len (G : Gr) (fi : Nat) (R : Nat → Nat) (n : Nat) : (iaO G fi R n).length = n := by unfold iaO; rw [List.length_map, List.length_range]
theorem iaO_succ (G : Gr) (fi : Nat) (R : Nat → Nat) (n : Nat) : iaO G fi R (n + 1) = iaO G fi R n ++ [((G.ev (G.ev (fi + n)).tg).ch, R n + n)] := by
  unfold iaO
  rw [List.range_succ, List.map_append]
  rfl
def iaR (S : MM) (F : Nat → Nat × Nat) (i jo b r p s : Nat) (A : Nat → Nat) (X : GX) (G : Gr) (T : Tr) (H : List Nat) (W : Nat → Nat) (a d c : Nat) (E : List (Nat × Nat)) (ea : Nat → Nat) (e l9 fi sz : Nat) (R : Nat → Nat) : Prop :=
  WrR S F i jo b r p A X G T H W ∧ mR S 1102 b = some a ∧ EdL S F jo a d c E ea ∧ p < 256 ∧ OwSl G p s ∧ e = ea l9 ∧ E[l9]? = some (fi, sz) ∧ fi + sz ≤ G.n ∧ G.n + sz ≤ 8192 ∧ ∀ k, k < sz → (G.ev (fi + k)).ch = none ∧ mI S 515 (X.ad (G.ev (fi + k)).tg) = nI (R k) ∧ R k ≤ visN G T
def I_ia (b e : Nat) (F : Nat → Nat × Nat) (i jo r p s : Nat) (A : Nat → Nat) (X : GX) (G : Gr) (T : Tr) (a d c : Nat) (E : List (Nat × Nat)) (ea : Nat → Nat) (fi sz : Nat) (R : Nat → Nat) (S : MM) (t : Nat) : KT := fun lo st S1 cs sl => ∃ j F1 A1 X1 G1 T1 H1 W1, j + t = sz ∧ lo = [(2, .inl (nI j)), (0, .inr (.inr (some b))), (1, .inr (.inr (some e)))] ∧ st = [] ∧ RnQ S S1 F i jo b r p s A X G T a d c E ea (iaO G fi R j) F1 A1 X1 G1 T1 H1 W1 ∧ KRk S S1 ∧ visN G1 T1 = visN G T + j ∧ (∀ k, k < G.n → G1.ev k = G.ev k) ∧ cs ≤ runC G s j ∧ sl ≤ runZ G s j
def iaQ (S S' : MM) (F : Nat → Nat × Nat) (i jo b r p s : Nat) (A : Nat → Nat) (X : GX) (G : Gr) (T : Tr) (a d c : Nat) (E : List (Nat × Nat)) (ea : Nat → Nat) (fi sz : Nat) (R : Nat → Nat) : Prop := ∃ F' A' X' G' T' H' W', RnQ S S' F i jo b r p s A X G T a d c E ea (iaO G fi R sz) F' A' X' G' T' H' W'
def T_pia : TR := fun Rc Rs av S cs sl K _Kx => match av with
  | [.inr (.inr b_o), .inr (.inr e_o)] => pa b_o fun b => (pa e_o fun e => (∃ (F : Nat → Nat × Nat) (i jo r p s : Nat) (A : Nat → Nat) (X : GX) (G : Gr) (T : Tr) (H : List Nat) (W : Nat → Nat) (a d c : Nat) (E : List (Nat × Nat)) (ea : Nat → Nat) (l9 fi sz : Nat) (R : Nat → Nat), (iaR S F i jo b r p s A X G T H W a d c E ea e l9 fi sz R) ∧ cs + (runC G s sz) ≤ Rc ∧ sl + (runZ G s sz) ≤ Rs ∧ (∀ (S' : MM), (iaQ S S' F i jo b r p s A X G T a d c E ea fi sz R) → K none S' (cs + (runC G s sz)) (sl + (runZ G s sz)))))
  | _ => False
def sp_pia (b : Nat) (e : Nat) (F : Nat → Nat × Nat) (i jo r p s : Nat) (A : Nat → Nat) (X : GX) (G : Gr) (T : Tr) (H : List Nat) (W : Nat → Nat) (a d c : Nat) (E : List (Nat × Nat)) (ea : Nat → Nat) (l9 fi sz : Nat) (R : Nat → Nat) : Sp := (fun av S => av = [.inr (.inr (some b)), .inr (.inr (some e))] ∧ (iaR S F i jo b r p s A X G T H W a d c E ea e l9 fi sz R), fun _ S => runC G s sz, fun _ S => runZ G s sz, fun _ S rv S' => rv = none ∧ (iaQ S S' F i jo b r p s A X G T a d c E ea fi sz R), fun _ _ _ _ => False)
def tX10_insertAgain : CD := [(0, .iconst 0), (1, .istore_n 2), (2, .iload_n 2), (3, .aload_n 1), (4, .getfield 107), (7, .if_icmp .ge 46), (10, .aload_n 0), (11, .getfield 12), (14, .getfield 70), (17, .aload_n 1), (18, .getfield 109), (21, .iload_n 2), (22, .iadd), (23, .invokevirtual 92), (26, .checkcast 30), (29, .getfield 134), (32, .astore_n 3), (33, .aload_n 0), (34, .aload_n 3), (35, .getfield 138), (38, .aload_n 3), (39, .getfield 131), (42, .iload_n 2), (43, .iadd), (44, .invokevirtual 60), (47, .iinc 2 1), (50, .goto (-48)), (53, .return_)]
set_option maxRecDepth 100000 in
theorem kX10_insertAgain : chk cX10_insertAgain tX10_insertAgain = true := by decide +kernel
theorem vX10_insertAgain_92 : ∀ w ∈ ([.methodLink RX10 92 yJx4a65c_get_915e3, .instanceMethod yJx4a65c_get_915e3, .selects yJx4a65c_get_915e3.cls yJx4a65c_get_915e3 yJx4a65c_get_915e3, .initialized yJx4a65c_get_915e3.cls, .code yJx4a65c_get_915e3 cJx4a65c_get_915e3 2 (some (.object "java/lang/Object"))] : List Cond), w ∈ lw_good := List.forall_mem_cons.mpr ⟨mgd 873 (by decide +kernel) (by decide +kernel), List.forall_mem_cons.mpr ⟨mgd 677 (by decide +kernel) (by decide +kernel), List.forall_mem_cons.mpr ⟨mgd 678 (by decide +kernel) (by decide +kernel), List.forall_mem_cons.mpr ⟨mgd 130 (by decide +kernel) (by decide +kernel), List.forall_mem_cons.mpr ⟨mgd 679 (by decide +kernel) (by decide +kernel), fun _ h => absurd h List.not_mem_nil⟩⟩⟩⟩⟩
theorem vX10_insertAgain_60 : ∀ w ∈ ([.methodLink RX10 60 yX10_write, .instanceMethod yX10_write, .selects yX10_write.cls yX10_write yX10_write, .initialized yX10_write.cls, .code yX10_write cX10_write 5 none] : List Cond), w ∈ lw_good := List.forall_mem_cons.mpr ⟨mgd 867 (by decide +kernel) (by decide +kernel), List.forall_mem_cons.mpr ⟨mgd 869 (by decide +kernel) (by decide +kernel), List.forall_mem_cons.mpr ⟨mgd 2 (by decide +kernel) (by decide +kernel), List.forall_mem_cons.mpr ⟨mgd 124 (by decide +kernel) (by decide +kernel), List.forall_mem_cons.mpr ⟨mgd 870 (by decide +kernel) (by decide +kernel), fun _ h => absurd h List.not_mem_nil⟩⟩⟩⟩⟩
set_option maxRecDepth 100000 in
set_option maxHeartbeats 2000000 in
theorem c_pia (l : Launch) : ∀ (b : Nat) (e : Nat) (F : Nat → Nat × Nat) (i jo r p s : Nat) (A : Nat → Nat) (X : GX) (G : Gr) (T : Tr) (H : List Nat) (W : Nat → Nat) (a d c : Nat) (E : List (Nat × Nat)) (ea : Nat → Nat) (l9 fi sz : Nat) (R : Nat → Nat), Ct l yX10_insertAgain cX10_insertAgain 4 none 9 219 (sp_pia b e F i jo r p s A X G T H W a d c E ea l9 fi sz R) := by
  intro b e F i jo r p s A X G T H W a d c E ea l9 fi sz R
  refine Ct.of (fX10, nX10, aX10, iX10, lX10, [(92, 0, 2, 3, T_alget), (60, 0, 3, 0, T_pwr)], qX10, gX10, []) false tX10_insertAgain (fun _ S => look [(2, ([2,0,1], I_ia b e F i jo r p s A X G T a d c E ea fi sz R S))]) (by decide) (by decide) kX10_insertAgain ⟨_, _, rfl⟩ fX10_ok nX10_ok aX10_ok iX10_ok lX10_ok (fun p e R s m args below meth c Q D cy z r A C hR1 hR2 => List.forall_mem_cons.mpr ⟨cOK_use (fun _ _ _ _ _ _ _ _ h => let ⟨sp, h1, h2, h3⟩ := u_alget l _ _ _ _ _ _ _ _ h; ⟨sp, cOK_V C h1 vX10_insertAgain_92 ⟨by decide, by decide, by decide +kernel⟩ ⟨by rw [hR1]; decide, by rw [hR2]; decide⟩ (k := 0) (T := TJx4a65c) (N := 3) rfl (by decide) h2, h3⟩), List.forall_mem_cons.mpr ⟨cOK_use (fun _ _ _ _ _ _ _ _ h => let ⟨sp, h1, h2, h3⟩ := u_pwr l _ _ _ _ _ _ _ _ h; ⟨sp, cOK_V C h1 vX10_insertAgain_60 ⟨by decide, by decide, by decide +kernel⟩ ⟨by rw [hR1]; decide, by rw [hR2]; decide⟩ (k := 11) (T := TX10) (N := 6) rfl (by decide) h2, h3⟩), fun _ h => absurd h List.not_mem_nil⟩⟩) qX10_ok gX10_ok rfl ?_ ?_
  · rintro _ S ⟨rfl, hp⟩
    refine ⟨Nat.le_of_ble_eq_true rfl, 300, ?_⟩
    show (∃ k1, I_ia b e F i jo r p s A X G T a d c E ea fi sz R S k1 [(2, .inl (0 : Int32)), (0, .inr (.inr (some b))), (1, .inr (.inr (some e)))] [] S 0 0)
    obtain ⟨hW, h1, hE, h2, h3, rfl, h4, h5, h6, h7⟩ := hp
    exact ⟨sz, 0, F, A, X, G, T, H, W, by omega, rfl, rfl, RnQ.rf hW h1 hE, fun _ _ => rfl, rfl, fun _ _ => rfl, Nat.zero_le _, Nat.zero_le _⟩
  · intro av S hpre pc I hI k lo st S1 cs sl h
    obtain ⟨rfl, hp⟩ := hpre
    have hm := look_in hI
    rw [List.mem_singleton] at hm
    cases hm
    obtain ⟨j, F1, A1, X1, G1, T1, H1, W1, hj, rfl, rfl, hQ, hR, hv, hev, hcs, hsl⟩ := h
    refine ⟨300, ?_⟩
    show (isO S1 4 e ∧ (((mI S1 401 e) ≤ (nI j) → (([] : List MV) = [] ∧ mret none (sp_pia b e F i jo r p s A X G T H W a d c E ea l9 fi sz R) [.inr (.inr (some b)), .inr (.inr (some e))] S none S1 cs sl)) ∧ (¬ (mI S1 401 e) ≤ (nI j) → (isO S1 11 b ∧ (pa (mR S1 1101 b) fun a_1 => isO S1 6 a_1 ∧ (isO S1 4 e ∧ (0 = 0 ∧ ((pa (mR S1 601 a_1) fun a_2 => (∃ (i_3 : Nat), (mI S1 400 e) + (nI j) = nI i_3 ∧ (∃ (d_4 c_5 kk_6 : Nat) (L_7 : List Nat), (AL S1 a_2 d_4 c_5 kk_6 L_7 ∧ i_3 < L_7.length) ∧ cs ≤ runC G s sz ∧ sl ≤ runZ G s sz ∧ (((∀ w_9, (L_7[i_3]?) = some w_9 → isO S1 5 w_9) ∧ (pa (L_7[i_3]?) fun a_10 => isO S1 5 a_10 ∧ (pa (mR S1 507 a_10) fun a_11 => isO S1 5 a_11 ∧ (pa (mR S1 507 a_10) fun a_12 => isO S1 5 a_12 ∧ (0 = 0 ∧ (∃ (ix_13 : Nat), (mI S1 515 a_12) + (nI j) = nI ix_13 ∧ (∃ (F_14 : Nat → Nat × Nat) (i_15 jo_16 r_17 p_18 : Nat) (A_19 : Nat → Nat) (X_20 : GX) (G_21 : Gr) (T_22 : Tr) (H_23 : List Nat) (W_24 : Nat → Nat) (oc_25 : Option Nat) (s_26 : Nat), (WrR S1 F_14 i_15 jo_16 b r_17 p_18 A_19 X_20 G_21 T_22 H_23 W_24 ∧ OwP G_21 T_22 p_18 oc_25 ix_13 s_26 ∧ (mI S1 505 a_11) = chI oc_25) ∧ cs + (enC G_21 s_26) ≤ runC G s sz ∧ sl + (enZ G_21 s_26) ≤ runZ G s sz ∧ (∀ (S_27 : MM), (wrQ S1 S_27 F_14 i_15 r_17 A_19 X_20 G_21 T_22 H_23 p_18 oc_25 ix_13 s_26) → (∃ k1, k1 < k ∧ I_ia b e F i jo r p s A X G T a d c E ea fi sz R S k1 [(2, .inl ((nI j) + (1 : Int32))), (0, .inr (.inr (some b))), (1, .inr (.inr (some e)))] [] S_27 (cs + (enC G_21 s_26)) (sl + (enZ G_21 s_26)))))))))))))))))))))))
    obtain ⟨hW, h1, hE, h2, h3, rfl, h4, h5, h6, h7⟩ := hp
    obtain ⟨q1, q2, q3, q4, q5, q6, q7, q8, q9, q10, q11⟩ := id hQ
    obtain ⟨w1, w2, w3, w4, w5, w6, w7, w8, wG, wF, wi, wj, wj0⟩ := id q1
    obtain ⟨e1, e2, e3, e4⟩ := q3.at h4
    rw [iaO_len] at q9
    have gn := wG.ok.hn
    have mono : ∀ n, n ≤ sz → runC G s n ≤ runC G s sz ∧ runZ G s n ≤ runZ G s sz := fun n hn => by
      obtain ⟨t, ht⟩ : ∃ t, sz = n + t := ⟨sz - n, by omega⟩
      rw [ht]
      exact runC_mono G s n t
    have mo := mono j (by omega)
    refine ⟨e1, ?_⟩
    rw [e4]
    refine if_le (a := sz) (b := j) (by omega) (by omega) (fun z => ?_) (fun z => ?_)
    · have hjs : j = sz := by omega
      subst hjs
      exact ⟨rfl, trivial, ⟨rfl, F1, A1, X1, G1, T1, H1, W1, hQ⟩, hcs, hsl⟩
    · have hl : fi + j < G.n := by omega
      have hl1 : fi + j < G1.n := by omega
      obtain ⟨c1, c2, c3⟩ := h7 j z
      obtain ⟨t1, t2⟩ := (hW.2.2.2.2.2.2.2.2.1.gt.2.1 _ hl).2 c1
      have tl : (G.ev (fi + j)).tg < G.n := by omega
      have el : ((List.range G1.n).map X1.ad).length = G1.n := by rw [List.length_map, List.length_range]
      have e5 : ((List.range G1.n).map X1.ad)[fi + j]? = some (X.ad (fi + j)) := by
        rw [List.getElem?_map, List.getElem?_range hl1]
        exact congrArg some (q8 _ hl)
      have v0 := wG.ev.2.1 (fi + j) hl1
      rw [EvF, q8 _ hl, hev _ hl] at v0
      have v1 := wG.ev.2.1 (G.ev (fi + j)).tg (by omega)
      rw [EvF, q8 _ tl, hev _ tl] at v1
      have tg : mR S1 507 (X.ad (fi + j)) = some (X.ad (G.ev (fi + j)).tg) := by
        have := v0.2.2.2.2.2.2.2.2.2.2.2.2.2.2 c1
        rw [q8 _ tl] at this; exact this
      have ch : mI S1 505 (X.ad (G.ev (fi + j)).tg) = chI (G.ev (G.ev (fi + j)).tg).ch := v1.2.2.2.2.2.2.2.2.2.2.2.2.1
      have rk : mI S1 515 (X.ad (G.ev (fi + j)).tg) = nI (R j) := by
        have o0 : isO S 5 (X.ad (G.ev (fi + j)).tg) := (hW.2.2.2.2.2.2.2.2.1.ev.2.1 _ tl).1
        rw [hR _ o0]; exact c2
      have hs1 := hQ.sl h3
      obtain ⟨cc, cz⟩ := hQ.cost
      rw [iaO_len] at cc cz
      have mo1 := mono (j + 1) (by omega)
      refine ⟨w1, pa_i w4 ⟨(wG 0).1, e1, rfl, pa_i (wG 2).1 ⟨fi + j, by rw [e3]; exact nI_add fi j, A1 3, capF G1.n, 5, _, ⟨(wG 2).2.2.2, by rw [el]; exact hl1⟩, Nat.le_trans hcs mo.1, Nat.le_trans hsl mo.2, ?_⟩⟩⟩
      rw [e5]
      refine ⟨(fun w hw => by cases hw; exact v0.1), v0.1, pa_i tg ⟨v1.1, pa_i tg ⟨v1.1, rfl, R j + j, by rw [rk]; exact nI_add _ _, F1, i, jo, r, p, A1, X1, G1, T1, H1, W1, (G.ev (G.ev (fi + j)).tg).ch, s, ⟨q1, ⟨by omega, h2, hs1, fun c w => ⟨?_, by omega⟩, fun w => absurd w t2⟩, ch⟩, by omega, by omega, fun S2 hS2 => ?_⟩⟩⟩
      · exact (hW.2.2.2.2.2.2.2.2.1.gt.2.1 _ tl).1 c w
      · obtain ⟨F2, A2, X2, G2, T2, H2, W2, hQ2, hst, hR2⟩ := hQ.wr hS2 hs1
        have hd : HdS G1 H1 := wG 20
        have vd := hst.visI t2 (hs1.gt wG.gt h2) (fun x hx => ((hd.1 x).1 hx).1)
        refine ⟨k - 1, by omega, j + 1, F2, A2, X2, G2, T2, H2, W2, by omega, by rw [nI_1], rfl, by rw [iaO_succ]; exact hQ2, hR.tr q5 hR2, by omega, fun l hl9 => by rw [hst.old (by omega)]; exact hev l hl9, by omega, by omega⟩
theorem u_pia (l : Launch) : Us l yX10_insertAgain cX10_insertAgain 4 none 9 219 11 T_pia := by
  intro Rc Rs av S cs sl K Kx h
  unfold T_pia at h
  split at h
  · rename_i b_o e_o
    obtain ⟨b, rfl, h_1⟩ := pa_of h
    obtain ⟨e, rfl, h_2⟩ := pa_of h_1
    obtain ⟨F, i, jo, r, p, s, A, X, G, T, H, W, a, d, c, E, ea, l9, fi, sz, R, hp, hc, hs, hk⟩ := h_2
    refine ⟨(sp_pia b e F i jo r p s A X G T H W a d c E ea l9 fi sz R), c_pia l b e F i jo r p s A X G T H W a d c E ea l9 fi sz R, fun _ _ h9 => ⟨_, _, h9.1, h9.2.1.1⟩, ⟨rfl, hp⟩, hc, hs, fun S' h8 => by
      obtain ⟨-, h8⟩ := h8
      exact hk _ h8, fun _ _ q => q.elim⟩
  · exact h.elim
