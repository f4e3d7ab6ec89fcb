/-! ===== Peer.deleteText ===== -/
theorem WrR.nx {S S' : MM} {F F' : Nat → Nat × Nat} {i jo b r p : Nat} {A A' : Nat → Nat} {X X' : GX} {G G' : Gr} {T T' : Tr} {H H' : List Nat} {W W' : Nat → Nat} (h : WrR S F i jo b r p A X G T H W) (hG : GI S' F' i A' X' G' T' H' W') (hF : FO S' F') (hf : ∀ c, c ∈ mL S → F' c = F c) (hk : Keep (fun c => (F c).1 = i ∨ c = r) S S') (ha : A' 0 = A 0) : WrR S' F' i jo b r p A' X' G' T' H' W' := by
  obtain ⟨h1, h2, h3, h4, h5, h6, h7, h8, -, -, hi, hj, hj0⟩ := h
  have nb : ¬ ((F b).1 = i ∨ b = r) := fun z => z.elim (fun w => hj ((F1 h2).symm.trans w)) (fun w => f_ne h2 h8 (by decide) w)
  have kb := hk.2.1 b h1.1 nb
  exact ⟨hk.isO h1, (hf b h1.1).trans h2, (kb.1 1100).trans h3, by rw [ha]; exact (kb.2.1 1101).trans h4, (kb.2.1 1104).trans h5, hk.isO h6, (hk.1 r h6.1).2.2.trans h7, (hf r h6.1).trans h8, hG, hF, hi, hj, hj0⟩
theorem runC_mono (G : Gr) (s j t : Nat) : runC G s j ≤ runC G s (j + t) ∧ runZ G s j ≤ runZ G s (j + t) := by
  have a1 := capC_mono (G.n + j) t
  have a2 := capC_mono (G.cn s + j) t
  have b1 := capZ_mono (G.n + j) t
  have b2 := capZ_mono (G.cn s + j) t
  unfold runC runZ
  rw [← Nat.add_assoc G.n, ← Nat.add_assoc (G.cn s)]
  by_cases q : s < G.m
  · rw [if_pos q, if_pos q, if_pos q, if_pos q]; omega
  · rw [if_neg q, if_neg q, if_neg q, if_neg q]
    by_cases v : j = 0
    · rw [if_pos v, if_pos v]
      refine ⟨?_, ?_⟩
      · split <;> omega
      · split <;> omega
    · rw [if_neg v, if_neg v, if_neg (by omega), if_neg (by omega)]; omega
/-- the slot of a peer's own agent -/
def OwSl (G : Gr) (p s : Nat) : Prop := (s < G.m ∧ G.ag s = p) ∨ (s = G.m ∧ G.m < 16 ∧ ∀ t, t < G.m → G.ag t ≠ p)
theorem OwSl.eg {G : Gr} {p s : Nat} (h : OwSl G p s) : s < (eGr G s p).m ∧ (eGr G s p).ag s = p := by
  unfold eGr
  rcases h with q | q
  · rw [if_pos q.1]; exact q
  · rw [if_neg (by omega), q.1]
    exact ⟨Nat.lt_succ_self _, updN_s⟩
theorem OwSl.gt {G : Gr} {T : Tr} {p s : Nat} (h : OwSl G p s) (hg : GT G T) (hp : p < 256) : GT (eGr G s p) T := by
  unfold eGr
  rcases h with q | ⟨q1, q2, q3⟩
  · rw [if_pos q.1]; exact hg
  · rw [if_neg (by omega)]; exact Gr.agn_GT hg q2 hp q3
/-- what a run of own events leaves -/
def RnQ (S S1 : MM) (F : Nat → Nat × Nat) (i jo b r p s : Nat) (A : Nat → Nat) (X : GX) (G : Gr) (T : Tr) (a d c : Nat) (E : List (Nat × Nat)) (ea : Nat → Nat) (ops : List (Option Nat × Nat)) (F1 : Nat → Nat × Nat) (A1 : Nat → Nat) (X1 : GX) (G1 : Gr) (T1 : Tr) (H1 : List Nat) (W1 : Nat → Nat) : Prop := WrR S1 F1 i jo b r p A1 X1 G1 T1 H1 W1 ∧ mR S1 1102 b = some a ∧ EdL S1 F1 jo a d c E ea ∧ (∀ c, c ∈ mL S → F1 c = F c) ∧ Keep (fun c => (F c).1 = i ∨ c = r) S S1 ∧ Run p s ops G T G1 T1 ∧ A1 0 = A 0 ∧ (∀ l, l < G.n → X1.ad l = X.ad l) ∧ G1.n = G.n + ops.length ∧ G1.cn s = G.cn s + ops.length ∧ ((s < G1.m ∧ G1.ag s = p) ∨ (ops = [] ∧ G1 = G))
def I_dt (b ix n : Nat) (F : Nat → Nat × Nat) (i jo r p s : Nat) (A : Nat → Nat) (X : GX) (G : Gr) (T : Tr) (a d c : Nat) (E : List (Nat × Nat)) (ea : Nat → Nat) (S : MM) (t : Nat) : KT := fun lo st S1 cs sl => ∃ j F1 A1 X1 G1 T1 H1 W1, j + t = n ∧ lo = [(3, .inl (nI j)), (0, .inr (.inr (some b))), (1, .inl (nI ix)), (2, .inl (nI n))] ∧ st = [] ∧ RnQ S S1 F i jo b r p s A X G T a d c E ea (List.replicate j (none, ix)) F1 A1 X1 G1 T1 H1 W1 ∧ visN G1 T1 + j = visN G T ∧ cs ≤ runC G s j ∧ sl ≤ runZ G s j
/-- of a peer's own things, what its writing may change: its list of edits, that list's row, its row of parents -/
def jo3 (jo : Nat) (v : Nat × Nat) : Prop := v = (jo, 2) ∨ v = (jo, 3) ∨ v = (jo, 5)
def dtQ (S S' : MM) (F : Nat → Nat × Nat) (i jo b r p s : Nat) (A : Nat → Nat) (X : GX) (G : Gr) (T : Tr) (a c : Nat) (E : List (Nat × Nat)) (ops : List (Option Nat × Nat)) : Prop := ∃ F' A' X' G' T' H' W' d' ea', WrR S' F' i jo b r p A' X' G' T' H' W' ∧ mR S' 1102 b = some a ∧ EdL S' F' jo a d' (alK c E.length) (E ++ [(G.n, ops.length)]) ea' ∧ (∀ c, c ∈ mL S → F' c = F c) ∧ Keep (fun c => (F c).1 = i ∨ jo3 jo (F c)) S S' ∧ Run p s ops G T G' T' ∧ A' 0 = A 0 ∧ ∀ l, l < G.n → X'.ad l = X.ad l
def T_pdt : TR := fun Rc Rs av S cs sl K _Kx => match av with
  | [.inr (.inr b_o), .inl ix_v, .inl n_v] => pa b_o fun b => (∃ (ix : Nat), ix_v = nI ix ∧ (∃ (n : Nat), n_v = nI n ∧ (∃ (F : Nat → Nat × Nat) (i jo r p s : Nat) (A : Nat → Nat) (X : GX) (G : Gr) (T : Tr) (H : List Nat) (W : Nat → Nat) (a d c : Nat) (E : List (Nat × Nat)) (ea : Nat → Nat), (WrR S F i jo b r p A X G T H W ∧ mR S 1102 b = some a ∧ EdL S F jo a d c E ea ∧ c ≤ 50000 ∧ p < 256 ∧ OwSl G p s ∧ G.n + n ≤ 8192 ∧ ix + n ≤ visN G T ∧ 1 ≤ n) ∧ cs + (runC G s n + ekC c E.length n) ≤ Rc ∧ sl + (runZ G s n + ekZ c E.length n) ≤ Rs ∧ (∀ (S' : MM), (dtQ S S' F i jo b r p s A X G T a c E (List.replicate n (none, ix))) → K none S' (cs + (runC G s n + ekC c E.length n)) (sl + (runZ G s n + ekZ c E.length n))))))
  | _ => False
def sp_pdt (b : Nat) (ix : Nat) (n : Nat) (F : Nat → Nat × Nat) (i jo r p s : Nat) (A : Nat → Nat) (X : GX) (G : Gr) (T : Tr) (H : List Nat) (W : Nat → Nat) (a d c : Nat) (E : List (Nat × Nat)) (ea : Nat → Nat) : Sp := (fun av S => av = [.inr (.inr (some b)), .inl (nI ix), .inl (nI n)] ∧ (WrR S F i jo b r p A X G T H W ∧ mR S 1102 b = some a ∧ EdL S F jo a d c E ea ∧ c ≤ 50000 ∧ p < 256 ∧ OwSl G p s ∧ G.n + n ≤ 8192 ∧ ix + n ≤ visN G T ∧ 1 ≤ n), fun _ S => runC G s n + ekC c E.length n, fun _ S => runZ G s n + ekZ c E.length n, fun _ S rv S' => rv = none ∧ (dtQ S S' F i jo b r p s A X G T a c E (List.replicate n (none, ix))), fun _ _ _ _ => False)
def tX10_deleteText : CD := [(0, .iconst 0), (1, .istore_n 3), (2, .iload_n 3), (3, .iload_n 2), (4, .if_icmp .ge 15), (7, .aload_n 0), (8, .iconst (-1)), (9, .iload_n 1), (10, .invokevirtual 60), (13, .iinc 3 1), (16, .goto (-14)), (19, .aload_n 0), (20, .iload_n 2), (21, .invokevirtual 64), (24, .return_)]
set_option maxRecDepth 100000 in
theorem kX10_deleteText : chk cX10_deleteText tX10_deleteText = true := by decide +kernel
theorem vX10_deleteText_60 : ∀ w ∈ ([.methodLink RX10 60 yX10_write, .instanceMethod yX10_write, .selects yX10_write.cls yX10_write yX10_write, .initialized yX10_write.cls, .code yX10_write cX10_write 5 none] : List Cond), w ∈ lw_good := List.forall_mem_cons.mpr ⟨mgd 867 (by decide +kernel) (by decide +kernel), List.forall_mem_cons.mpr ⟨mgd 869 (by decide +kernel) (by decide +kernel), List.forall_mem_cons.mpr ⟨mgd 2 (by decide +kernel) (by decide +kernel), List.forall_mem_cons.mpr ⟨mgd 124 (by decide +kernel) (by decide +kernel), List.forall_mem_cons.mpr ⟨mgd 870 (by decide +kernel) (by decide +kernel), fun _ h => absurd h List.not_mem_nil⟩⟩⟩⟩⟩
theorem vX10_deleteText_64 : ∀ w ∈ ([.methodLink RX10 64 yX10_keepEdit, .instanceMethod yX10_keepEdit, .selects yX10_keepEdit.cls yX10_keepEdit yX10_keepEdit, .initialized yX10_keepEdit.cls, .code yX10_keepEdit cX10_keepEdit 2 none] : List Cond), w ∈ lw_good := List.forall_mem_cons.mpr ⟨mgd 1032 (by decide +kernel) (by decide +kernel), List.forall_mem_cons.mpr ⟨mgd 1034 (by decide +kernel) (by decide +kernel), List.forall_mem_cons.mpr ⟨mgd 16 (by decide +kernel) (by decide +kernel), List.forall_mem_cons.mpr ⟨mgd 124 (by decide +kernel) (by decide +kernel), List.forall_mem_cons.mpr ⟨mgd 1035 (by decide +kernel) (by decide +kernel), fun _ h => absurd h List.not_mem_nil⟩⟩⟩⟩⟩
set_option maxRecDepth 100000 in
set_option maxHeartbeats 2000000 in
theorem c_pdt (l : Launch) : ∀ (b : Nat) (ix : Nat) (n : Nat) (F : Nat → Nat × Nat) (i jo r p s : Nat) (A : Nat → Nat) (X : GX) (G : Gr) (T : Tr) (H : List Nat) (W : Nat → Nat) (a d c : Nat) (E : List (Nat × Nat)) (ea : Nat → Nat), Ct l yX10_deleteText cX10_deleteText 4 none 9 219 (sp_pdt b ix n F i jo r p s A X G T H W a d c E ea) := by
  intro b ix n F i jo r p s A X G T H W a d c E ea
  refine Ct.of (fX10, nX10, aX10, iX10, lX10, [(60, 0, 3, 0, T_pwr), (64, 0, 2, 0, T_pke)], qX10, gX10, []) false tX10_deleteText (fun _ S => look [(2, ([3,0,1,2], I_dt b ix n F i jo r p s A X G T a d c E ea S))]) (by decide) (by decide) kX10_deleteText ⟨_, _, rfl⟩ fX10_ok nX10_ok aX10_ok iX10_ok lX10_ok (fun p e R s m args below meth c Q D cy z r A C hR1 hR2 => List.forall_mem_cons.mpr ⟨cOK_use (fun _ _ _ _ _ _ _ _ h => let ⟨sp, h1, h2, h3⟩ := u_pwr l _ _ _ _ _ _ _ _ h; ⟨sp, cOK_V C h1 vX10_deleteText_60 ⟨by decide, by decide, by decide +kernel⟩ ⟨by rw [hR1]; decide, by rw [hR2]; decide⟩ (k := 11) (T := TX10) (N := 6) rfl (by decide) h2, h3⟩), List.forall_mem_cons.mpr ⟨cOK_use (fun _ _ _ _ _ _ _ _ h => let ⟨sp, h1, h2, h3⟩ := u_pke l _ _ _ _ _ _ _ _ h; ⟨sp, cOK_V C h1 vX10_deleteText_64 ⟨by decide, by decide, by decide +kernel⟩ ⟨by rw [hR1]; decide, by rw [hR2]; decide⟩ (k := 11) (T := TX10) (N := 6) rfl (by decide) h2, h3⟩), fun _ h => absurd h List.not_mem_nil⟩⟩) qX10_ok gX10_ok rfl ?_ ?_
  · rintro _ S ⟨rfl, hp⟩
    refine ⟨Nat.le_of_ble_eq_true rfl, 300, ?_⟩
    show (∃ k1, I_dt b ix n F i jo r p s A X G T a d c E ea S k1 [(3, .inl (0 : Int32)), (0, .inr (.inr (some b))), (1, .inl (nI ix)), (2, .inl (nI n))] [] S 0 0)
    obtain ⟨hW, h1, hE, h2, h3, h4, h5, h6, h7⟩ := hp
    exact ⟨n, 0, F, A, X, G, T, H, W, by omega, rfl, rfl, ⟨hW, h1, hE, fun _ _ => rfl, Keep.rf, ⟨rfl, rfl⟩, rfl, fun _ _ => rfl, rfl, rfl, Or.inr ⟨rfl, rfl⟩⟩, rfl, Nat.zero_le _, Nat.zero_le _⟩
  · intro av S hpre pc I hI k lo st S1 cs sl h
    obtain ⟨rfl, hp⟩ := hpre
    have hm := look_in hI
    rw [List.mem_singleton] at hm
    cases hm
    obtain ⟨j, F1, A1, X1, G1, T1, H1, W1, hj, rfl, rfl, hQ, hv, hcs, hsl⟩ := h
    refine ⟨300, ?_⟩
    show (((nI n) ≤ (nI j) → (0 = 0 ∧ (∃ (n_1 : Nat), nI n = nI n_1 ∧ (∃ (F_2 : Nat → Nat × Nat) (jo_3 a_4 d_5 c_6 : Nat) (E_7 : List (Nat × Nat)) (ea_8 : Nat → Nat) (g_9 tk_10 td_11 tc_12 : Nat) (L_13 : List Nat), (isO S1 11 b ∧ mR S1 1102 b = some a_4 ∧ EdL S1 F_2 jo_3 a_4 d_5 c_6 E_7 ea_8 ∧ c_6 ≤ 50000 ∧ mR S1 1101 b = some g_9 ∧ isO S1 6 g_9 ∧ mR S1 601 g_9 = some tk_10 ∧ AL S1 tk_10 td_11 tc_12 5 L_13 ∧ n_1 ≤ L_13.length ∧ FO S1 F_2 ∧ jo_3 ≠ 0) ∧ cs + (ekC c_6 E_7.length n_1) ≤ runC G s n + ekC c E.length n ∧ sl + (ekZ c_6 E_7.length n_1) ≤ runZ G s n + ekZ c E.length n ∧ (∀ (S_14 : MM), (ekP S1 S_14 F_2 jo_3 a_4 d_5 c_6 E_7 ea_8 L_13.length n_1) → (([] : List MV) = [] ∧ mret none (sp_pdt b ix n F i jo r p s A X G T H W a d c E ea) [.inr (.inr (some b)), .inl (nI ix), .inl (nI n)] S none S_14 (cs + (ekC c_6 E_7.length n_1)) (sl + (ekZ c_6 E_7.length n_1)))))))) ∧ (¬ (nI n) ≤ (nI j) → (0 = 0 ∧ (∃ (ix_15 : Nat), nI ix = nI ix_15 ∧ (∃ (F_16 : Nat → Nat × Nat) (i_17 jo_18 r_19 p_20 : Nat) (A_21 : Nat → Nat) (X_22 : GX) (G_23 : Gr) (T_24 : Tr) (H_25 : List Nat) (W_26 : Nat → Nat) (oc_27 : Option Nat) (s_28 : Nat), (WrR S1 F_16 i_17 jo_18 b r_19 p_20 A_21 X_22 G_23 T_24 H_25 W_26 ∧ OwP G_23 T_24 p_20 oc_27 ix_15 s_28 ∧ (-1 : Int32) = chI oc_27) ∧ cs + (enC G_23 s_28) ≤ runC G s n + ekC c E.length n ∧ sl + (enZ G_23 s_28) ≤ runZ G s n + ekZ c E.length n ∧ (∀ (S_29 : MM), (wrQ S1 S_29 F_16 i_17 r_19 A_21 X_22 G_23 T_24 H_25 p_20 oc_27 ix_15 s_28) → (∃ k1, k1 < k ∧ I_dt b ix n F i jo r p s A X G T a d c E ea S k1 [(3, .inl ((nI j) + (1 : Int32))), (0, .inr (.inr (some b))), (1, .inl (nI ix)), (2, .inl (nI n))] [] S_29 (cs + (enC G_23 s_28)) (sl + (enZ G_23 s_28)))))))))
    obtain ⟨hW, h1, hE, h2, h3, h4, h5, h6, h7⟩ := hp
    obtain ⟨q1, q2, q3, q4, q5, q6, q7, q8, q9, q10, q11⟩ := hQ
    rw [List.length_replicate] at q9 q10
    obtain ⟨w1, w2, w3, w4, w5, w6, w7, w8, wG, wF, wi, wj, wj0⟩ := id q1
    refine if_le (by omega) (by omega) (fun z => ?_) (fun z => ?_)
    · have hjn : j = n := by omega
      subst hjn
      have hL : ((List.range G1.n).map X1.ad).length = G1.n := by rw [List.length_map, List.length_range]
      refine ⟨rfl, j, rfl, F1, jo, a, d, c, E, ea, A1 0, A1 2, A1 3, capF G1.n, (List.range G1.n).map X1.ad, ⟨w1, q2, q3, h2, w4, (wG 0).1, (wG 2).1, (wG 2).2.2.2, by rw [hL]; omega, wF, wj0⟩, by omega, by omega, fun S2 hS2 => ⟨rfl, trivial, ⟨rfl, ?_⟩, by show _ ≤ runC G s j + ekC c E.length j; omega, by show _ ≤ runZ G s j + ekZ c E.length j; omega⟩⟩
      rw [hL] at hS2
      rcases hS2 with ⟨z1, -⟩ | ⟨-, F2, d2, ea2, y1, y2, y3, y4⟩
      · omega
      · have e1 : G1.n - j = G.n := by omega
        rw [e1] at y1
        have nI : ∀ x, (F1 x).1 = i → ¬ (F1 x = (jo, 2) ∨ F1 x = (jo, 3)) := fun x hx w => w.elim (fun v => wj (by rw [v] at hx; exact hx)) (fun v => wj (by rw [v] at hx; exact hx))
        have g2 : GI S2 F2 i A1 X1 G1 T1 H1 W1 := wG.keep y4 nI wF wi y3
        have nb : ¬ (F1 b = (jo, 2) ∨ F1 b = (jo, 3)) := fun w => by
          rw [w2] at w
          rcases w with v | v <;> (injection v with _ u; exact absurd u (by decide))
        have kb := y4.2.1 b w1.1 nb
        have k9 : Keep (fun c => (F c).1 = i ∨ jo3 jo (F c)) S S2 := by
          have r8 := hW.2.2.2.2.2.2.2.1
          refine (q5.mono (Q := fun c => (F c).1 = i ∨ jo3 jo (F c)) (fun x _ w => w.imp id (fun v => by rw [v, r8]; exact Or.inr (Or.inr rfl)))).trN y4 (fun x hx w => Or.inr ?_)
          rw [← q4 x hx]
          rcases w with v | v
          · exact Or.inl v
          · exact Or.inr (Or.inl v)
        refine ⟨F2, A1, X1, G1, T1, H1, W1, d2, ea2, ⟨y4.isO w1, (y3 b w1.1).trans w2, (kb.1 1100).trans w3, (kb.2.1 1101).trans w4, (kb.2.1 1104).trans w5, y4.isO w6, (y4.1 r w6.1).2.2.trans w7, (y3 r w6.1).trans w8, g2, y2, wi, wj, wj0⟩, (kb.2.1 1102).trans q2, by rw [List.length_replicate]; exact y1, fun x hx => (y3 x (q5.1 x hx).1).trans (q4 x hx), k9, q6, q7, q8⟩
    · have hsl9 : OwSl G1 p s := by
        rcases q11 with w | ⟨-, w⟩
        · exact Or.inl w
        · rw [w]; exact h4
      have l3 : s < G1.m ∨ (j = 0 ∧ ¬ s < G.m) := by
        rcases q11 with w | ⟨w, v⟩
        · exact Or.inl w.1
        · have j0 : j = 0 := by
            have := congrArg List.length w
            rw [List.length_replicate] at this; exact this
          by_cases u : s < G.m
          · exact Or.inl (by rw [v]; exact u)
          · exact Or.inr ⟨j0, u⟩
      have l4 : s < G.m → s < G1.m := fun u => by
        rcases q11 with w | ⟨-, v⟩
        · exact w.1
        · rw [v]; exact u
      obtain ⟨rc, rz⟩ := runC_s q9 q10 l3 l4
      obtain ⟨t, ht⟩ : ∃ t, n = (j + 1) + t := ⟨n - (j + 1), by omega⟩
      obtain ⟨mc, mz⟩ := runC_mono G s (j + 1) t
      rw [← ht] at mc mz
      refine ⟨rfl, ix, rfl, F1, i, jo, r, p, A1, X1, G1, T1, H1, W1, none, s, ⟨q1, ⟨by omega, h3, hsl9, (fun c w => by cases w), fun _ => by omega⟩, rfl⟩, by omega, by omega, fun S2 hS2 => ?_⟩
      obtain ⟨F2, A2, X2, G2, T2, H2, W2, y1, y2, y3, y4, y5, y6, y7, -⟩ := hS2
      obtain ⟨n1, n2, n3, n4, -⟩ := y5.nx hsl9.eg
      have hd : HdS G1 H1 := wG 20
      have vd := y5.visD (hsl9.gt wG.gt h3) (hd.jn wG.ok)
      have nP : ∀ {x rl : Nat}, F1 x = (jo, rl) → rl ≠ 5 → ¬ ((F1 x).1 = i ∨ x = r) := fun hx hr w => w.elim (fun v => wj (by rw [hx] at v; exact v)) (fun v => f_ne hx w8 hr v)
      have ed := q3.keep y4 (nP q3.2.1 (by decide)) (fun w => nP (q3.2.2.1 w) (by decide)) (fun l hl => nP (q3.2.2.2 l hl).2.1 (by omega)) y3
      have kb := y4.2.1 b w1.1 (nP w2 (by decide))
      refine ⟨k - 1, by omega, j + 1, F2, A2, X2, G2, T2, H2, W2, by omega, by rw [nI_1], rfl, ⟨q1.nx y1 y2 y3 y4 y6, (kb.2.1 1102).trans q2, ed, fun x hx => (y3 x (q5.1 x hx).1).trans (q4 x hx), q5.trN y4 (fun x hx w => w.imp (fun v => by rw [← q4 x hx]; exact v) id), ?_, y6.trans q7, fun l hl => (y7 l (by omega)).trans (q8 l hl), ?_, ?_, Or.inl ⟨n3, n4⟩⟩, by omega, by omega, by omega⟩
      · rw [List.replicate_succ']
        exact q6.snoc ⟨H1, hd, y5⟩
      · rw [List.length_replicate, n1, q9]; omega
      · rw [List.length_replicate, n2, q10]; omega
theorem u_pdt (l : Launch) : Us l yX10_deleteText cX10_deleteText 4 none 9 219 11 T_pdt := by
  intro Rc Rs av S cs sl K Kx h
  unfold T_pdt at h
  split at h
  · rename_i b_o ix_v n_v
    obtain ⟨b, rfl, h_1⟩ := pa_of h
    obtain ⟨ix, rfl, h_2⟩ := h_1
    obtain ⟨n, rfl, h_3⟩ := h_2
    obtain ⟨F, i, jo, r, p, s, A, X, G, T, H, W, a, d, c, E, ea, hp, hc, hs, hk⟩ := h_3
    refine ⟨(sp_pdt b ix n F i jo r p s A X G T H W a d c E ea), c_pdt l b ix n F i jo r p s A X G T H W a d c E ea, fun _ _ h9 => ⟨_, _, h9.1, h9.2.1.1⟩, ⟨rfl, hp⟩, hc, hs, fun S' h8 => by
      obtain ⟨-, h8⟩ := h8
      exact hk _ h8, fun _ _ q => q.elim⟩
  · exact h.elim
