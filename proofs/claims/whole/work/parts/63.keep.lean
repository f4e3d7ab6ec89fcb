/-! ===== Peer.keepEdit ===== -/
def ekC (c l n : Nat) : Nat := if n = 0 then 0 else 1 + alC c l
def ekZ (c l n : Nat) : Nat := if n = 0 then 0 else 2 + alZ c l
def ekP (S S' : MM) (F : Nat → Nat × Nat) (jo a d c : Nat) (E : List (Nat × Nat)) (ea : Nat → Nat) (N n : Nat) : Prop := (n = 0 ∧ S' = S) ∨ (n ≠ 0 ∧ ∃ F' d' ea', EdL S' F' jo a d' (alK c E.length) (E ++ [(N - n, n)]) ea' ∧ FO S' F' ∧ (∀ b, b ∈ mL S → F' b = F b) ∧ Keep (fun b => F b = (jo, 2) ∨ F b = (jo, 3)) S S')
def T_pke : TR := fun Rc Rs av S cs sl K _Kx => match av with
  | [.inr (.inr b_o), .inl n_v] => pa b_o fun b => (∃ (n : Nat), n_v = nI n ∧ (∃ (F : Nat → Nat × Nat) (jo a d c : Nat) (E : List (Nat × Nat)) (ea : Nat → Nat) (g tk td tc : Nat) (L : List Nat), (isO S 11 b ∧ mR S 1102 b = some a ∧ EdL S F jo a d c E ea ∧ c ≤ 50000 ∧ mR S 1101 b = some g ∧ isO S 6 g ∧ mR S 601 g = some tk ∧ AL S tk td tc 5 L ∧ n ≤ L.length ∧ FO S F ∧ jo ≠ 0) ∧ cs + (ekC c E.length n) ≤ Rc ∧ sl + (ekZ c E.length n) ≤ Rs ∧ (∀ (S' : MM), (ekP S S' F jo a d c E ea L.length n) → K none S' (cs + (ekC c E.length n)) (sl + (ekZ c E.length n)))))
  | _ => False
def sp_pke (b : Nat) (n : Nat) (F : Nat → Nat × Nat) (jo a d c : Nat) (E : List (Nat × Nat)) (ea : Nat → Nat) (g tk td tc : Nat) (L : List Nat) : Sp := (fun av S => av = [.inr (.inr (some b)), .inl (nI n)] ∧ (isO S 11 b ∧ mR S 1102 b = some a ∧ EdL S F jo a d c E ea ∧ c ≤ 50000 ∧ mR S 1101 b = some g ∧ isO S 6 g ∧ mR S 601 g = some tk ∧ AL S tk td tc 5 L ∧ n ≤ L.length ∧ FO S F ∧ jo ≠ 0), fun _ S => ekC c E.length n, fun _ S => ekZ c E.length n, fun _ S rv S' => rv = none ∧ (ekP S S' F jo a d c E ea L.length n), fun _ _ _ _ => False)
def tX10_keepEdit : CD := [(0, .iload_n 1), (1, .ifCond .le 31), (4, .aload_n 0), (5, .getfield 21), (8, .new 68), (11, .dup), (12, .aload_n 0), (13, .getfield 12), (16, .getfield 70), (19, .invokevirtual 73), (22, .iload_n 1), (23, .isub), (24, .iload_n 1), (25, .invokespecial 77), (28, .invokevirtual 79), (31, .pop), (32, .return_)]
set_option maxRecDepth 100000 in
theorem kX10_keepEdit : chk cX10_keepEdit tX10_keepEdit = true := by decide +kernel
theorem vX10_keepEdit_73 : ∀ w ∈ ([.methodLink RX10 73 yJx4a65c_size_8abf5, .instanceMethod yJx4a65c_size_8abf5, .selects yJx4a65c_size_8abf5.cls yJx4a65c_size_8abf5 yJx4a65c_size_8abf5, .initialized yJx4a65c_size_8abf5.cls, .code yJx4a65c_size_8abf5 cJx4a65c_size_8abf5 1 (some .int)] : List Cond), w ∈ lw_good := List.forall_mem_cons.mpr ⟨mgd 871 (by decide +kernel) (by decide +kernel), List.forall_mem_cons.mpr ⟨mgd 673 (by decide +kernel) (by decide +kernel), List.forall_mem_cons.mpr ⟨mgd 674 (by decide +kernel) (by decide +kernel), List.forall_mem_cons.mpr ⟨mgd 130 (by decide +kernel) (by decide +kernel), List.forall_mem_cons.mpr ⟨mgd 675 (by decide +kernel) (by decide +kernel), fun _ h => absurd h List.not_mem_nil⟩⟩⟩⟩⟩
theorem vX10_keepEdit_77 : ∀ w ∈ ([.instanceMethod yX3_init, .initialized yX3_init.cls, .code yX3_init cX3_init 3 none] : List Cond), w ∈ lw_good := List.forall_mem_cons.mpr ⟨mgd 1039 (by decide +kernel) (by decide +kernel), List.forall_mem_cons.mpr ⟨mgd 149 (by decide +kernel) (by decide +kernel), List.forall_mem_cons.mpr ⟨mgd 1040 (by decide +kernel) (by decide +kernel), fun _ h => absurd h List.not_mem_nil⟩⟩⟩
theorem vX10_keepEdit_79 : ∀ w ∈ ([.methodLink RX10 79 yJx4a65c_add_9ea2d, .instanceMethod yJx4a65c_add_9ea2d, .selects yJx4a65c_add_9ea2d.cls yJx4a65c_add_9ea2d yJx4a65c_add_9ea2d, .initialized yJx4a65c_add_9ea2d.cls, .code yJx4a65c_add_9ea2d cJx4a65c_add_9ea2d 2 (some .boolean)] : List Cond), w ∈ lw_good := List.forall_mem_cons.mpr ⟨mgd 1051 (by decide +kernel) (by decide +kernel), List.forall_mem_cons.mpr ⟨mgd 949 (by decide +kernel) (by decide +kernel), List.forall_mem_cons.mpr ⟨mgd 950 (by decide +kernel) (by decide +kernel), List.forall_mem_cons.mpr ⟨mgd 130 (by decide +kernel) (by decide +kernel), List.forall_mem_cons.mpr ⟨mgd 951 (by decide +kernel) (by decide +kernel), fun _ h => absurd h List.not_mem_nil⟩⟩⟩⟩⟩
set_option maxRecDepth 100000 in
set_option maxHeartbeats 2000000 in
theorem c_pke (l : Launch) : ∀ (b : Nat) (n : Nat) (F : Nat → Nat × Nat) (jo a d c : Nat) (E : List (Nat × Nat)) (ea : Nat → Nat) (g tk td tc : Nat) (L : List Nat), Ct l yX10_keepEdit cX10_keepEdit 2 none 7 163 (sp_pke b n F jo a d c E ea g tk td tc L) := by
  intro b n F jo a d c E ea g tk td tc L
  refine Ct.of (fX10, nX10, aX10, iX10, lX10, [(73, 0, 1, 1, T_alsz), (77, 1, 3, 0, T_dini), (79, 0, 2, 1, T_aladd)], qX10, gX10, []) false tX10_keepEdit (fun _ _ _ => none) (by decide) (by decide) kX10_keepEdit ⟨_, _, rfl⟩ fX10_ok nX10_ok aX10_ok iX10_ok lX10_ok (fun p e R s m args below meth c Q D cy z r A C hR1 hR2 => List.forall_mem_cons.mpr ⟨cOK_use (fun _ _ _ _ _ _ _ _ h => let ⟨sp, h1, h2, h3⟩ := u_alsz l _ _ _ _ _ _ _ _ h; ⟨sp, cOK_V C h1 vX10_keepEdit_73 ⟨by decide, by decide, by decide +kernel⟩ ⟨by rw [hR1]; decide, by rw [hR2]; decide⟩ (k := 0) (T := TJx4a65c) (N := 3) rfl (by decide) h2, h3⟩), List.forall_mem_cons.mpr ⟨cOK_use (fun _ _ _ _ _ _ _ _ h => let ⟨sp, h1, h2, h3⟩ := u_dini l _ _ _ _ _ _ _ _ h; ⟨sp, cOK_I C h1 vX10_keepEdit_77 (Or.inl (mgd 1038 (by decide +kernel) (by decide +kernel))) rfl ⟨by decide, by decide, by decide +kernel⟩ ⟨by rw [hR1]; decide, by rw [hR2]; decide⟩ h2, h3⟩), List.forall_mem_cons.mpr ⟨cOK_use (fun _ _ _ _ _ _ _ _ h => let ⟨sp, h1, h2, h3⟩ := u_aladd l _ _ _ _ _ _ _ _ h; ⟨sp, cOK_V C h1 vX10_keepEdit_79 ⟨by decide, by decide, by decide +kernel⟩ ⟨by rw [hR1]; decide, by rw [hR2]; decide⟩ (k := 0) (T := TJx4a65c) (N := 3) rfl (by decide) h2, h3⟩), fun _ h => absurd h List.not_mem_nil⟩⟩⟩) qX10_ok gX10_ok rfl ?_ ?_
  · rintro _ S ⟨rfl, hp⟩
    refine ⟨Nat.le_of_ble_eq_true rfl, 300, ?_⟩
    show (((nI n) ≤ 0 → (([] : List MV) = [] ∧ mret none (sp_pke b n F jo a d c E ea g tk td tc L) [.inr (.inr (some b)), .inl (nI n)] S none S 0 0)) ∧ (¬ (nI n) ≤ 0 → (isO S 11 b ∧ (0 + 1 ≤ ekC c E.length n ∧ 0 + 2 ≤ ekZ c E.length n ∧ ∀ q_1, q_1 ∉ mL S → (isO (nO S q_1 4) 11 b ∧ (pa (mR (nO S q_1 4) 1101 b) fun a_2 => isO (nO S q_1 4) 6 a_2 ∧ (0 = 0 ∧ ((pa (mR (nO S q_1 4) 601 a_2) fun a_3 => (∃ (d_4 c_5 kk_6 : Nat) (L_7 : List Nat), (AL (nO S q_1 4) a_3 d_4 c_5 kk_6 L_7) ∧ 0 + 1 ≤ ekC c E.length n ∧ 0 + 2 ≤ ekZ c E.length n ∧ ((1 = 1 ∧ ((isO (nO S q_1 4) 4 q_1) ∧ 0 + 1 ≤ ekC c E.length n ∧ 0 + 2 ≤ ekZ c E.length n ∧ ((0 = 0 ∧ ((pa (mR S 1102 b) fun a_10 => (∃ (d_11 c_12 kk_13 : Nat) (L_14 : List Nat), (AL (sI (sI (nO S q_1 4) 400 q_1 ((nI L_7.length) - (nI n))) 401 q_1 (nI n)) a_10 d_11 c_12 kk_13 L_14 ∧ isO (sI (sI (nO S q_1 4) 400 q_1 ((nI L_7.length) - (nI n))) 401 q_1 (nI n)) kk_13 q_1 ∧ c_12 ≤ 50000) ∧ 0 + 1 + (alC c_12 L_14.length) ≤ ekC c E.length n ∧ 0 + 2 + (alZ c_12 L_14.length) ≤ ekZ c E.length n ∧ (∀ (S_15 : MM), (adP (sI (sI (nO S q_1 4) 400 q_1 ((nI L_7.length) - (nI n))) 401 q_1 (nI n)) S_15 a_10 d_11 c_12 kk_13 L_14 (L_14 ++ [q_1])) → (([] : List MV) = [] ∧ mret none (sp_pke b n F jo a d c E ea g tk td tc L) [.inr (.inr (some b)), .inl (nI n)] S none S_15 (0 + 1 + (alC c_12 L_14.length)) (0 + 2 + (alZ c_12 L_14.length))))))))))))))))))))))
    obtain ⟨h1, h2, hE, h3, h4, h5, h6, h7, h8, hF, hj⟩ := hp
    have l2 := h7.2.2.2.1
    have l3 := h7.2.2.2.2.1
    obtain ⟨e1, e2, e3, e4⟩ := id hE
    have len : ((List.range E.length).map ea).length = E.length := by rw [List.length_map, List.length_range]
    refine ⟨fun z => ?_, fun z => ?_⟩
    · have hn : n = 0 := by
        have := (nI_leI (a := n) (b := 0) (by omega) (by decide)).1 z
        omega
      exact ⟨rfl, trivial, ⟨rfl, Or.inl ⟨hn, rfl⟩⟩, Nat.zero_le _, Nat.zero_le _⟩
    · have hn : n ≠ 0 := fun w => z (by rw [w]; exact Int32.le_refl _)
      have c0 : ekC c E.length n = 1 + alC c E.length := if_neg hn
      have z0 : ekZ c E.length n = 2 + alZ c E.length := if_neg hn
      rw [c0, z0]
      refine ⟨h1, by omega, by omega, fun q hq => ?_⟩
      have gq : g ≠ q := fun w => hq (w ▸ h5.1)
      have bq : b ≠ q := fun w => hq (w ▸ h1.1)
      have kn : Keep (fun b => b = q) S (nO S q 4) := Keep.rf.nO hq
      have al : AL (nO S q 4) tk td tc 5 L := h7.keepc kn (fun w => hq (w ▸ h7.1.1)) (fun w v => hq (v ▸ (h7.row w).1.1))
      refine ⟨isO_nO h1 hq, pa_i (by rw [mR_nO, if_neg bq]; exact h4) ⟨isO_nO h5 hq, rfl, pa_i (by rw [mR_nO, if_neg gq]; exact h6) ⟨td, tc, 5, L, al, by omega, by omega, rfl, isO_nO_self, by omega, by omega, ?_⟩⟩⟩
      rw [pk_sub h8]
      have k1 : Keep (fun b => b = q) S (sI (sI (nO S q 4) 400 q (nI (L.length - n))) 401 q (nI n)) := Keep.sI (P := fun b => b = q) (Keep.sI (P := fun b => b = q) kn rfl) rfl
      have o1 : isO (sI (sI (nO S q 4) 400 q (nI (L.length - n))) 401 q (nI n)) 4 q := isO_sI (isO_sI isO_nO_self)
      have i0 : mI (sI (sI (nO S q 4) 400 q (nI (L.length - n))) 401 q (nI n)) 400 q = nI (L.length - n) := by rw [mI_sI, if_neg (fun w => absurd w.1 (by decide)), mI_sI, if_pos ⟨rfl, rfl⟩]
      have i1 : mI (sI (sI (nO S q 4) 400 q (nI (L.length - n))) 401 q (nI n)) 401 q = nI n := by rw [mI_sI, if_pos ⟨rfl, rfl⟩]
      have mq : ∀ x, x ∈ mL (sI (sI (nO S q 4) 400 q (nI (L.length - n))) 401 q (nI n)) ↔ x ∈ mL S ∨ x = q := fun x => by
        show x ∈ mL S ++ [q] ↔ _
        rw [List.mem_append, List.mem_singleton]
      generalize sI (sI (nO S q 4) 400 q (nI (L.length - n))) 401 q (nI n) = S1 at *
      have al1 : AL S1 a d c 4 ((List.range E.length).map ea) := e1.keepc k1 (fun w => hq (w ▸ e1.1.1)) (fun w v => hq (v ▸ (e1.row w).1.1))
      refine ⟨rfl, pa_i h2 ⟨d, c, 4, (List.range E.length).map ea, ⟨al1, o1, h3⟩, by rw [len]; omega, by rw [len]; omega, fun S2 hS2 => ⟨rfl, trivial, ⟨rfl, Or.inr ⟨hn, ?_⟩⟩, by rw [len]; show _ ≤ ekC c E.length n; rw [c0]; omega, by rw [len]; show _ ≤ ekZ c E.length n; rw [z0]; omega⟩⟩⟩
      obtain ⟨d2, f1, f2, f3⟩ := hS2
      rw [len] at f1
      have aK : alK c E.length ≠ 0 := by
        have := f1.2.2.2.1
        rw [List.length_append, List.length_singleton] at this
        omega
      have q1 : q ∈ mL S1 := o1.1
      have inS : ∀ x, x ∈ mL S → x ∈ mL S1 := fun x hx => (mq x).2 (Or.inl hx)
      have qd : d2 ≠ q := fun w => by
        rcases f3 with v | v
        · exact hq (w ▸ v.1 ▸ (e1.row v.2).1.1)
        · exact v (w ▸ q1)
      have hf : ∀ x, x ∈ mL S → (fun x => if x = q then (jo, 100 + E.length) else if x = d2 then (jo, 3) else F x) x = F x := fun x hx => by
        show (if x = q then (jo, 100 + E.length) else if x = d2 then (jo, 3) else F x) = F x
        rw [if_neg (fun w : x = q => hq (w ▸ hx))]
        by_cases w : x = d2
        · rw [if_pos w]
          rcases f3 with v | v
          · rw [w, v.1, e3 v.2]
          · exact absurd (w ▸ inS x hx) v
        · rw [if_neg w]
      have nAP : ∀ x, isO S 4 x → ¬ AP S1 a d c x := fun x hx => AP.no (k1.isO hx) (by decide) (isO_ne hx e1.1 (by decide))
      refine ⟨fun x => if x = q then (jo, 100 + E.length) else if x = d2 then (jo, 3) else F x, d2, updN ea E.length q, ⟨?_, ?_, fun _ => ?_, fun l hl => ?_⟩, fun x hx => ?_, hf, ?_⟩
      · have e9 : (List.range (E ++ [(L.length - n, n)]).length).map (updN ea E.length q) = (List.range E.length).map ea ++ [q] := by
          rw [List.length_append, List.length_singleton, List.range_succ, List.map_append, List.map_singleton, updN_s]
          congr 1
          exact List.map_congr_left (fun x hx => updN_o (by have := List.mem_range.1 hx; omega))
        rw [e9]; exact f1
      · rw [hf a e1.1.1]; exact e2
      · show (if d2 = q then _ else if d2 = d2 then (jo, 3) else F d2) = (jo, 3)
        rw [if_neg qd, if_pos rfl]
      · rw [List.length_append, List.length_singleton] at hl
        by_cases w : l = E.length
        · subst w
          rw [updN_s]
          have kq := f2.2.1 q q1 (AP.no o1 (by decide) (fun v => hq (v ▸ e1.1.1)))
          have g9 : (E ++ [(L.length - n, n)]).getD E.length (0, 0) = (L.length - n, n) := by simp
          rw [g9]
          exact ⟨f2.isO o1, if_pos rfl, (kq.1 400).trans i0, (kq.1 401).trans i1⟩
        · have hl' : l < E.length := by omega
          rw [updN_o w]
          obtain ⟨v1, v2, v3, v4⟩ := e4 l hl'
          have ka := k1.2.1 _ v1.1 (fun v => hq (v ▸ v1.1))
          have kb := f2.2.1 _ (inS _ v1.1) (nAP _ v1)
          have g9 : (E ++ [(L.length - n, n)]).getD l (0, 0) = E.getD l (0, 0) := by
            rw [List.getD_eq_getElem?_getD, List.getD_eq_getElem?_getD, List.getElem?_append, if_pos hl']
          rw [g9]
          exact ⟨f2.isO (k1.isO v1), (hf _ v1.1).trans v2, ((kb.1 400).trans (ka.1 400)).trans v3, ((kb.1 401).trans (ka.1 401)).trans v4⟩
      · by_cases w : x = q
        · rw [w]; exact (f2.1 q q1).1
        · have hx : (if x = q then (jo, 100 + E.length) else if x = d2 then (jo, 3) else F x) ≠ (0, 0) := hx
          rw [if_neg w] at hx
          by_cases v : x = d2
          · rw [v]; exact (f1.row aK).1.1
          · rw [if_neg v] at hx
            exact (f2.1 x (inS x (hF x hx))).1
      · refine (k1.mono (fun x hx w => absurd (w ▸ hx) hq)).trN f2 (fun x hx w => ?_)
        rcases w with w | w
        · exact Or.inl (w ▸ e2)
        · exact Or.inr (w.1 ▸ e3 w.2.1)
  · exact fun _ _ _ _ _ h => by cases h
theorem u_pke (l : Launch) : Us l yX10_keepEdit cX10_keepEdit 2 none 7 163 11 T_pke := by
  intro Rc Rs av S cs sl K Kx h
  unfold T_pke at h
  split at h
  · rename_i b_o n_v
    obtain ⟨b, rfl, h_1⟩ := pa_of h
    obtain ⟨n, rfl, h_2⟩ := h_1
    obtain ⟨F, jo, a, d, c, E, ea, g, tk, td, tc, L, hp, hc, hs, hk⟩ := h_2
    refine ⟨(sp_pke b n F jo a d c E ea g tk td tc L), c_pke l b n F jo a d c E ea g tk td tc L, fun _ _ h9 => ⟨_, _, h9.1, h9.2.1⟩, ⟨rfl, hp⟩, hc, hs, fun S' h8 => by
      obtain ⟨-, h8⟩ := h8
      exact hk _ h8, fun _ _ q => q.elim⟩
  · exact h.elim
