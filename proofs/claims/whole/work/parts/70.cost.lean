/-! ===== Peer.costOfUndoing ===== -/
/-- whether an event of a call costs an event when the call is undone -/
def cuX (G : Gr) (l : Nat) : Bool := decide ((G.ev l).ch = none ∨ stk G l = none)
def cuN (G : Gr) (fi : Nat) : Nat → Nat
  | 0 => 0
  | j + 1 => cuN G fi j + if cuX G (fi + j) = true then 1 else 0
theorem cuN_le (G : Gr) (fi : Nat) : ∀ j, cuN G fi j ≤ j
  | 0 => Nat.le_refl _
  | j + 1 => by
    have := cuN_le G fi j
    rw [cuN]
    split <;> omega
theorem stI_m1 {o : Option Nat} (h : ∀ j, o = some j → j < 8192) : stI o = -1 ↔ o = none := by
  cases o with
  | none => exact ⟨fun _ => rfl, fun _ => rfl⟩
  | some j =>
    have hj := h j rfl
    refine ⟨fun z => ?_, fun z => by cases z⟩
    have z : nI j = -1 := z
    have w := nI_pos (n := j) (by omega)
    rw [z] at w
    exact absurd (by decide) w
def I_cu (b e fi : Nat) (G : Gr) (sz : Nat) (S : MM) (t : Nat) : KT := fun lo st S1 cs sl => ∃ j, j + t = sz ∧ lo = [(3, .inl (nI j)), (2, .inl (nI (cuN G fi j))), (0, .inr (.inr (some b))), (1, .inr (.inr (some e)))] ∧ st = [] ∧ S = S1 ∧ cs = 0 ∧ sl = 0
def T_pcu : TR := fun Rc Rs av S cs sl K _Kx => match av with
  | [.inr (.inr b_o), .inr (.inr e_o)] => pa b_o fun b => (pa e_o fun e => (∃ (F : Nat → Nat × Nat) (i : Nat) (A : Nat → Nat) (X : GX) (G : Gr) (T : Tr) (H : List Nat) (W : Nat → Nat) (fi sz : Nat), (isO S 11 b ∧ mR S 1101 b = some (A 0) ∧ GI S F i A X G T H W ∧ isO S 4 e ∧ mI S 400 e = nI fi ∧ mI S 401 e = nI sz ∧ fi + sz ≤ G.n) ∧ cs ≤ Rc ∧ sl ≤ Rs ∧ (K (some (.inl (nI (cuN G fi sz)))) S cs sl)))
  | _ => False
def sp_pcu (b : Nat) (e : Nat) (F : Nat → Nat × Nat) (i : Nat) (A : Nat → Nat) (X : GX) (G : Gr) (T : Tr) (H : List Nat) (W : Nat → Nat) (fi sz : Nat) : Sp := (fun av S => av = [.inr (.inr (some b)), .inr (.inr (some e))] ∧ (isO S 11 b ∧ mR S 1101 b = some (A 0) ∧ GI S F i A X G T H W ∧ isO S 4 e ∧ mI S 400 e = nI fi ∧ mI S 401 e = nI sz ∧ fi + sz ≤ G.n), fun _ S => 0, fun _ S => 0, fun _ S rv S' => rv = (some (.inl (nI (cuN G fi sz)))) ∧ S' = S, fun _ _ _ _ => False)
def tX10_costOfUndoing : CD := [(0, .iconst 0), (1, .istore_n 2), (2, .iconst 0), (3, .istore_n 3), (4, .iload_n 3), (5, .aload_n 1), (6, .getfield 107), (9, .if_icmp .ge 54), (12, .aload_n 0), (13, .getfield 12), (16, .getfield 70), (19, .aload_n 1), (20, .getfield 109), (23, .iload_n 3), (24, .iadd), (25, .invokevirtual 92), (28, .checkcast 30), (31, .astore 4), (33, .iload_n 2), (34, .aload 4), (36, .invokevirtual 112), (39, .ifCond .eq 11), (42, .aload 4), (44, .invokevirtual 115), (47, .ifCond .eq 7), (50, .iconst 1), (51, .goto 4), (54, .iconst 0), (55, .iadd), (56, .istore_n 2), (57, .iinc 3 1), (60, .goto (-56)), (63, .iload_n 2), (64, .ireturn)]
set_option maxRecDepth 100000 in
theorem kX10_costOfUndoing : chk cX10_costOfUndoing tX10_costOfUndoing = true := by decide +kernel
theorem vX10_costOfUndoing_92 : ∀ w ∈ ([.methodLink RX10 92 yJx4a65c_get_915e3, .instanceMethod yJx4a65c_get_915e3, .selects yJx4a65c_get_915e3.cls yJx4a65c_get_915e3 yJx4a65c_get_915e3, .initialized yJx4a65c_get_915e3.cls, .code yJx4a65c_get_915e3 cJx4a65c_get_915e3 2 (some (.object "java/lang/Object"))] : List Cond), w ∈ lw_good := List.forall_mem_cons.mpr ⟨mgd 873 (by decide +kernel) (by decide +kernel), List.forall_mem_cons.mpr ⟨mgd 677 (by decide +kernel) (by decide +kernel), List.forall_mem_cons.mpr ⟨mgd 678 (by decide +kernel) (by decide +kernel), List.forall_mem_cons.mpr ⟨mgd 130 (by decide +kernel) (by decide +kernel), List.forall_mem_cons.mpr ⟨mgd 679 (by decide +kernel) (by decide +kernel), fun _ h => absurd h List.not_mem_nil⟩⟩⟩⟩⟩
theorem vX10_costOfUndoing_112 : ∀ w ∈ ([.methodLink RX10 112 yX4_inserts, .instanceMethod yX4_inserts, .selects yX4_inserts.cls yX4_inserts yX4_inserts, .initialized yX4_inserts.cls, .code yX4_inserts cX4_inserts 1 (some .boolean)] : List Cond), w ∈ lw_good := List.forall_mem_cons.mpr ⟨mgd 1117 (by decide +kernel) (by decide +kernel), List.forall_mem_cons.mpr ⟨mgd 691 (by decide +kernel) (by decide +kernel), List.forall_mem_cons.mpr ⟨mgd 692 (by decide +kernel) (by decide +kernel), List.forall_mem_cons.mpr ⟨mgd 126 (by decide +kernel) (by decide +kernel), List.forall_mem_cons.mpr ⟨mgd 693 (by decide +kernel) (by decide +kernel), fun _ h => absurd h List.not_mem_nil⟩⟩⟩⟩⟩
theorem vX10_costOfUndoing_115 : ∀ w ∈ ([.methodLink RX10 115 yX4_isVisible, .instanceMethod yX4_isVisible, .selects yX4_isVisible.cls yX4_isVisible yX4_isVisible, .initialized yX4_isVisible.cls, .code yX4_isVisible cX4_isVisible 1 (some .boolean)] : List Cond), w ∈ lw_good := List.forall_mem_cons.mpr ⟨mgd 1118 (by decide +kernel) (by decide +kernel), List.forall_mem_cons.mpr ⟨mgd 945 (by decide +kernel) (by decide +kernel), List.forall_mem_cons.mpr ⟨mgd 946 (by decide +kernel) (by decide +kernel), List.forall_mem_cons.mpr ⟨mgd 126 (by decide +kernel) (by decide +kernel), List.forall_mem_cons.mpr ⟨mgd 947 (by decide +kernel) (by decide +kernel), fun _ h => absurd h List.not_mem_nil⟩⟩⟩⟩⟩
set_option maxRecDepth 100000 in
set_option maxHeartbeats 2000000 in
theorem c_pcu (l : Launch) : ∀ (b : Nat) (e : Nat) (F : Nat → Nat × Nat) (i : Nat) (A : Nat → Nat) (X : GX) (G : Gr) (T : Tr) (H : List Nat) (W : Nat → Nat) (fi sz : Nat), Ct l yX10_costOfUndoing cX10_costOfUndoing 5 (some .int) 3 64 (sp_pcu b e F i A X G T H W fi sz) := by
  intro b e F i A X G T H W fi sz
  refine Ct.of (fX10, nX10, aX10, iX10, lX10, [(92, 0, 2, 3, T_alget), (112, 0, 1, 1, T_ins), (115, 0, 1, 1, T_vis)], qX10, gX10, []) false tX10_costOfUndoing (fun _ S => look [(4, ([3,2,0,1], I_cu b e fi G sz S))]) (by decide) (by decide) kX10_costOfUndoing ⟨_, _, rfl⟩ fX10_ok nX10_ok aX10_ok iX10_ok lX10_ok (fun p e R s m args below meth c Q D cy z r A C hR1 hR2 => List.forall_mem_cons.mpr ⟨cOK_use (fun _ _ _ _ _ _ _ _ h => let ⟨sp, h1, h2, h3⟩ := u_alget l _ _ _ _ _ _ _ _ h; ⟨sp, cOK_V C h1 vX10_costOfUndoing_92 ⟨by decide, by decide, by decide +kernel⟩ ⟨by rw [hR1]; decide, by rw [hR2]; decide⟩ (k := 0) (T := TJx4a65c) (N := 3) rfl (by decide) h2, h3⟩), List.forall_mem_cons.mpr ⟨cOK_use (fun _ _ _ _ _ _ _ _ h => let ⟨sp, h1, h2, h3⟩ := u_ins l _ _ _ _ _ _ _ _ h; ⟨sp, cOK_V C h1 vX10_costOfUndoing_112 ⟨by decide, by decide, by decide +kernel⟩ ⟨by rw [hR1]; decide, by rw [hR2]; decide⟩ (k := 5) (T := TX4) (N := 16) rfl (by decide) h2, h3⟩), List.forall_mem_cons.mpr ⟨cOK_use (fun _ _ _ _ _ _ _ _ h => let ⟨sp, h1, h2, h3⟩ := u_vis l _ _ _ _ _ _ _ _ h; ⟨sp, cOK_V C h1 vX10_costOfUndoing_115 ⟨by decide, by decide, by decide +kernel⟩ ⟨by rw [hR1]; decide, by rw [hR2]; decide⟩ (k := 5) (T := TX4) (N := 16) rfl (by decide) h2, h3⟩), fun _ h => absurd h List.not_mem_nil⟩⟩⟩) qX10_ok gX10_ok rfl ?_ ?_
  · rintro _ S ⟨rfl, hp⟩
    refine ⟨Nat.le_of_ble_eq_true rfl, 300, ?_⟩
    show (∃ k1, I_cu b e fi G sz S k1 [(3, .inl (0 : Int32)), (2, .inl (0 : Int32)), (0, .inr (.inr (some b))), (1, .inr (.inr (some e)))] [] S 0 0)
    exact ⟨sz, 0, by omega, rfl, rfl, rfl, rfl, rfl⟩
  · intro av S hpre pc I hI k lo st S1 cs sl h
    obtain ⟨rfl, hp⟩ := hpre
    have hm := look_in hI
    rw [List.mem_singleton] at hm
    cases hm
    obtain ⟨j, hj, rfl, rfl, rfl, rfl, rfl⟩ := h
    refine ⟨300, ?_⟩
    show (isO S 4 e ∧ (((mI S 401 e) ≤ (nI j) → (([] : List MV) = [] ∧ mret (some .int) (sp_pcu b e F i A X G T H W fi sz) [.inr (.inr (some b)), .inr (.inr (some e))] S (some (.inl (nI (cuN G fi j)))) S 0 0)) ∧ (¬ (mI S 401 e) ≤ (nI j) → (isO S 11 b ∧ (pa (mR S 1101 b) fun a_1 => isO S 6 a_1 ∧ (isO S 4 e ∧ (0 = 0 ∧ ((pa (mR S 601 a_1) fun a_2 => (∃ (i_3 : Nat), (mI S 400 e) + (nI j) = nI i_3 ∧ (∃ (d_4 c_5 kk_6 : Nat) (L_7 : List Nat), (AL S a_2 d_4 c_5 kk_6 L_7 ∧ i_3 < L_7.length) ∧ 0 ≤ 0 ∧ 0 ≤ 0 ∧ (((∀ w_9, (L_7[i_3]?) = some w_9 → isO S 5 w_9) ∧ (0 = 0 ∧ ((pa (L_7[i_3]?) fun a_10 => ((isO S 5 a_10) ∧ 0 ≤ 0 ∧ 0 ≤ 0 ∧ ((((if mI S 505 a_10 = -1 then 0 else 1) = 0 → (∃ k1, k1 < k ∧ I_cu b e fi G sz S k1 [(3, .inl ((nI j) + (1 : Int32))), (2, .inl ((nI (cuN G fi j)) + (1 : Int32))), (0, .inr (.inr (some b))), (1, .inr (.inr (some e)))] [] S 0 0)) ∧ (¬ (if mI S 505 a_10 = -1 then 0 else 1) = 0 → (0 = 0 ∧ ((pa (L_7[i_3]?) fun a_12 => ((isO S 5 a_12) ∧ 0 ≤ 0 ∧ 0 ≤ 0 ∧ ((((if mI S 514 a_12 = -1 then 1 else 0) = 0 → (∃ k1, k1 < k ∧ I_cu b e fi G sz S k1 [(3, .inl ((nI j) + (1 : Int32))), (2, .inl ((nI (cuN G fi j)) + (0 : Int32))), (0, .inr (.inr (some b))), (1, .inr (.inr (some e)))] [] S 0 0)) ∧ (¬ (if mI S 514 a_12 = -1 then 1 else 0) = 0 → (∃ k1, k1 < k ∧ I_cu b e fi G sz S k1 [(3, .inl ((nI j) + (1 : Int32))), (2, .inl ((nI (cuN G fi j)) + (1 : Int32))), (0, .inr (.inr (some b))), (1, .inr (.inr (some e)))] [] S 0 0))))))))))))))))))))))))))))
    obtain ⟨h1, h2, hG, h3, h4, h5, h6⟩ := hp
    have gn := hG.ok.hn
    have cl := cuN_le G fi j
    rw [h5]
    refine ⟨h3, if_le (by omega) (by omega) (fun z => ?_) (fun z => ?_)⟩
    · have : j = sz := by omega
      subst this
      exact ⟨rfl, trivial, ⟨rfl, rfl⟩, Nat.le_refl _, Nat.le_refl _⟩
    · have hl : fi + j < G.n := by omega
      have e1 : ((List.range G.n).map X.ad).length = G.n := by rw [List.length_map, List.length_range]
      have e2 : ((List.range G.n).map X.ad)[fi + j]? = some (X.ad (fi + j)) := by
        rw [List.getElem?_map, List.getElem?_range hl]; rfl
      obtain ⟨v1, -, -, -, -, -, -, -, -, -, -, -, v13, -⟩ := hG.ev.2.1 (fi + j) hl
      have cm : chI (G.ev (fi + j)).ch = -1 ↔ (G.ev (fi + j)).ch = none := chI_m1 (hG.gt.2.1 _ hl).1
      have nx : ∀ (x : Int32), x = nI (cuN G fi (j + 1)) → ∃ k1, k1 < k ∧ I_cu b e fi G sz S k1 [(3, .inl (nI j + 1)), (2, .inl x), (0, .inr (.inr (some b))), (1, .inr (.inr (some e)))] [] S 0 0 := fun x hx => by
        subst hx
        exact ⟨k - 1, by omega, j + 1, by omega, by rw [nI_1], rfl, rfl, rfl, rfl⟩
      have yes : cuX G (fi + j) = true → nI (cuN G fi j) + 1 = nI (cuN G fi (j + 1)) := fun w => by rw [cuN, if_pos w, nI_1]
      have no : ¬ cuX G (fi + j) = true → nI (cuN G fi j) + 0 = nI (cuN G fi (j + 1)) := fun w => by rw [cuN, if_neg w, Int32.add_zero]; rfl
      refine ⟨h1, pa_i h2 ⟨(hG 0).1, h3, rfl, pa_i (hG 2).1 ⟨fi + j, by rw [h4]; exact nI_add fi j, A 3, capF G.n, 5, _, ⟨(hG 2).2.2.2, by rw [e1]; exact hl⟩, Nat.le_refl _, Nat.le_refl _, ?_⟩⟩⟩
      rw [e2]
      refine ⟨(fun w hw => by cases hw; exact v1), rfl, v1, Nat.le_refl _, Nat.le_refl _, ?_⟩
      rw [v13]
      refine ⟨fun q => nx _ (yes ?_), fun q => ?_⟩
      · by_cases w : chI (G.ev (fi + j)).ch = -1
        · exact decide_eq_true (Or.inl (cm.1 w))
        · rw [if_neg w] at q; exact absurd q (by decide)
      · have hc : (G.ev (fi + j)).ch ≠ none := fun w => q (by rw [if_pos (cm.2 w)])
        have sm : stI (stk G (fi + j)) = -1 ↔ stk G (fi + j) = none := stI_m1 (fun l hl9 => by have := (Gr.stk_lt hG.gt.2.1 hl9).1; omega)
        refine ⟨rfl, v1, Nat.le_refl _, Nat.le_refl _, ?_⟩
        rw [hG 15 _ hl hc]
        refine ⟨fun w => nx _ (no (fun u => ?_)), fun w => nx _ (yes (decide_eq_true (Or.inr ?_)))⟩
        · rcases of_decide_eq_true u with v | v
          · exact hc v
          · rw [if_pos (sm.2 v)] at w; exact absurd w (by decide)
        · by_cases u : stI (stk G (fi + j)) = -1
          · exact sm.1 u
          · rw [if_neg u] at w; exact absurd rfl w
theorem u_pcu (l : Launch) : Us l yX10_costOfUndoing cX10_costOfUndoing 5 (some .int) 3 64 11 T_pcu := by
  intro Rc Rs av S cs sl K Kx h
  unfold T_pcu at h
  split at h
  · rename_i b_o e_o
    obtain ⟨b, rfl, h_1⟩ := pa_of h
    obtain ⟨e, rfl, h_2⟩ := pa_of h_1
    obtain ⟨F, i, A, X, G, T, H, W, fi, sz, hp, hc, hs, hk⟩ := h_2
    refine ⟨(sp_pcu b e F i A X G T H W fi sz), c_pcu l b e F i A X G T H W fi sz, fun _ _ h9 => ⟨_, _, h9.1, h9.2.1⟩, ⟨rfl, hp⟩, hc, hs, fun v9 S' h8 => by
      obtain ⟨h7, h8⟩ := h8
      cases h7
      subst h8
      exact hk, fun _ _ q => q.elim⟩
  · exact h.elim
