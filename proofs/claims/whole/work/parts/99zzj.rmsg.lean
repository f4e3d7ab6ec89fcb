/-! ===== The reference's alter (public); its messages: begin, close ===== -/
def T_ral1 : TR := fun Rc Rs av S cs sl K _Kx => match av with
  | [.inr (.inr t_o), .inl s, .inl x, .inl w] => pa t_o fun t => (∃ (F : Nat → Nat × Nat) (z : Nat → Nat) (Y : Nat → Nat → Nat) (R : Rb) (kz : Nat → Nat), (MD S F t z Y R kz) ∧ cs + 3 ≤ Rc ∧ sl + 18 ≤ Rs ∧ (∀ (v : Int32) (S' : MM), ((∃ i j b, i < 8 ∧ s = nI i ∧ j < (R.Q.sl i).length ∧ x = nI j ∧ b < 256 ∧ w = nI b ∧ v = nI ((R.Q.sl i).getD j 0) ∧ mdW S S' F t (alD R i j b) kz 0) ∨ ((np 8 s ∨ np 256 w ∨ (∃ i, i < 8 ∧ s = nI i ∧ R.Q.sl i ≠ [] ∧ np (R.Q.sl i).length x)) ∧ v = 0 ∧ mdW S S' F t R kz 1) ∨ ((¬ np 256 w ∧ ∃ i, i < 8 ∧ s = nI i ∧ R.Q.sl i = []) ∧ v = 0 ∧ mdW S S' F t R kz 2)) → K (some (.inl v)) S' (cs + 3) (sl + 18)))
  | _ => False
def sp_ral1 (t : Nat) (s : Int32) (x : Int32) (w : Int32) (F : Nat → Nat × Nat) (z : Nat → Nat) (Y : Nat → Nat → Nat) (R : Rb) (kz : Nat → Nat) : Sp := (fun av S => av = [.inr (.inr (some t)), .inl s, .inl x, .inl w] ∧ (MD S F t z Y R kz), fun _ S => 3, fun _ S => 18, fun _ S rv S' => ∃ v, rv = (some (.inl v)) ∧ ((∃ i j b, i < 8 ∧ s = nI i ∧ j < (R.Q.sl i).length ∧ x = nI j ∧ b < 256 ∧ w = nI b ∧ v = nI ((R.Q.sl i).getD j 0) ∧ mdW S S' F t (alD R i j b) kz 0) ∨ ((np 8 s ∨ np 256 w ∨ (∃ i, i < 8 ∧ s = nI i ∧ R.Q.sl i ≠ [] ∧ np (R.Q.sl i).length x)) ∧ v = 0 ∧ mdW S S' F t R kz 1) ∨ ((¬ np 256 w ∧ ∃ i, i < 8 ∧ s = nI i ∧ R.Q.sl i = []) ∧ v = 0 ∧ mdW S S' F t R kz 2)), fun _ _ _ _ => False)
def tX14_alter : CD := [(0, .aload_n 0), (1, .iconst 0), (2, .putfield 512), (5, .aload_n 0), (6, .iload_n 1), (7, .iload_n 2), (8, .iload_n 3), (9, .invokevirtual 597), (12, .ireturn), (13, .astore 4), (15, .aload_n 0), (16, .iconst 1), (17, .putfield 512), (20, .goto 10), (23, .astore 4), (25, .aload_n 0), (26, .iconst 2), (27, .putfield 512), (30, .iconst 0), (31, .ireturn)]
set_option maxRecDepth 100000 in
theorem kX14_alter : chk cX14_alter tX14_alter = true := by decide +kernel
theorem vX14_alter_597 : ∀ w ∈ ([.methodLink RX14 597 yX14_alter0, .instanceMethod yX14_alter0, .selects yX14_alter0.cls yX14_alter0 yX14_alter0, .initialized yX14_alter0.cls, .code yX14_alter0 cX14_alter0 5 (some .int)] : List Cond), w ∈ lw_good := List.forall_mem_cons.mpr ⟨mgd 2443 (by decide +kernel) (by decide +kernel), List.forall_mem_cons.mpr ⟨mgd 2445 (by decide +kernel) (by decide +kernel), List.forall_mem_cons.mpr ⟨mgd 115 (by decide +kernel) (by decide +kernel), List.forall_mem_cons.mpr ⟨mgd 136 (by decide +kernel) (by decide +kernel), List.forall_mem_cons.mpr ⟨mgd 2446 (by decide +kernel) (by decide +kernel), fun _ h => absurd h List.not_mem_nil⟩⟩⟩⟩⟩
set_option maxRecDepth 100000 in
set_option maxHeartbeats 2000000 in
theorem c_ral1 (l : Launch) (hlt : l.stackTraces = false) : ∀ (t : Nat) (s : Int32) (x : Int32) (w : Int32) (F : Nat → Nat × Nat) (z : Nat → Nat) (Y : Nat → Nat → Nat) (R : Rb) (kz : Nat → Nat), CtX l yX14_alter (Cond.codeWith yX14_alter cX14_alter 5 (some .int) [(5, 12, 13, 138), (5, 12, 23, 141)]) (some .int) 8 133 (sp_ral1 t s x w F z Y R kz) := by
  intro t s x w F z Y R kz
  refine CtX.ofH hlt (fX14, nX14, aX14, iX14, lX14, [(597, 0, 4, 1, T_ral0)], qX14, gX14, []) false tX14_alter [((5, 12, 13, 138), 1), ((5, 12, 23, 141), 2)] (fun _ _ _ => none) (by decide) (by decide) kX14_alter ⟨_, _, rfl⟩ fX14_ok nX14_ok aX14_ok iX14_ok lX14_ok (fun p e R s m args below meth c Q D cy z r A C hR1 hR2 => List.forall_mem_cons.mpr ⟨cOK_use (fun _ _ _ _ _ _ _ _ h => let ⟨sp, h1, h2, h3⟩ := u_ral0 l hlt _ _ _ _ _ _ _ _ h; ⟨sp, cOKx_V C h1 vX14_alter_597 ⟨by decide, by decide, by decide +kernel⟩ ⟨by rw [hR1]; decide, by rw [hR2]; decide⟩ (k := 15) (T := TX14) (N := 52) rfl (by decide) h2, h3⟩), fun _ h => absurd h List.not_mem_nil⟩) qX14_ok gX14_ok rfl (List.forall_mem_cons.mpr ⟨⟨by decide, mgd 1925 (by decide +kernel) (by decide +kernel)⟩, List.forall_mem_cons.mpr ⟨⟨by decide, mgd 2061 (by decide +kernel) (by decide +kernel)⟩, fun _ h => absurd h List.not_mem_nil⟩⟩) (fun _ _ _ _ z => z) ?_ ?_
  · rintro _ S ⟨rfl, hp⟩
    refine ⟨Nat.le_of_ble_eq_true rfl, 300, ?_⟩
    show (True ∧ (isO S 15 t ∧ (0 = 0 ∧ (∃ (F_1 : Nat → Nat × Nat) (z_2 : Nat → Nat) (Y_3 : Nat → Nat → Nat) (R_4 : Rb) (kz_5 : Nat → Nat), (MD (sI S 1551 t (0 : Int32)) F_1 t z_2 Y_3 R_4 kz_5) ∧ 0 + 3 ≤ 3 ∧ 0 + 18 ≤ 18 ∧ ((∀ (x_7 : Int32) (S_6 : MM), (∃ i j b, i < 8 ∧ s = nI i ∧ j < (R_4.Q.sl i).length ∧ x = nI j ∧ b < 256 ∧ w = nI b ∧ x_7 = nI ((R_4.Q.sl i).getD j 0) ∧ mdQ (sI S 1551 t (0 : Int32)) S_6 F_1 t (alD R_4 i j b) kz_5) → (([] : List MV) = [] ∧ mret (some .int) (sp_ral1 t s x w F z Y R kz) [.inr (.inr (some t)), .inl s, .inl x, .inl w] S (some (.inl x_7)) S_6 (0 + 3) (0 + 18))) ∧ ((np 8 s ∨ np 256 w ∨ (∃ i, i < 8 ∧ s = nI i ∧ R_4.Q.sl i ≠ [] ∧ np (R_4.Q.sl i).length x)) → (∀ e_9, (True ∧ (isO (sI S 1551 t (0 : Int32)) 15 t ∧ (([] : List MV) = [] ∧ mret (some .int) (sp_ral1 t s x w F z Y R kz) [.inr (.inr (some t)), .inl s, .inl x, .inl w] S (some (.inl (0 : Int32))) (sI (sI S 1551 t (0 : Int32)) 1551 t (1 : Int32)) (0 + 3) (0 + 18)))))) ∧ ((¬ np 256 w ∧ ∃ i, i < 8 ∧ s = nI i ∧ R_4.Q.sl i = []) → (∀ e_11, (True ∧ (isO (sI S 1551 t (0 : Int32)) 15 t ∧ (([] : List MV) = [] ∧ mret (some .int) (sp_ral1 t s x w F z Y R kz) [.inr (.inr (some t)), .inl s, .inl x, .inl w] S (some (.inl (0 : Int32))) (sI (sI S 1551 t (0 : Int32)) 1551 t (2 : Int32)) (0 + 3) (0 + 18)))))))))))
    refine ⟨trivial, (hp 0).1, rfl, F, z, Y, R, kz, hp.th 0, by decide, by decide, fun v S3 h => ?_, fun h e => ⟨trivial, (hp 0).1, rfl, trivial, ⟨_, rfl, Or.inr (Or.inl ⟨h, rfl, (hp.ex0 1 rfl).w hp⟩)⟩, Nat.le_refl _, Nat.le_refl _⟩, fun h e => ⟨trivial, (hp 0).1, rfl, trivial, ⟨_, rfl, Or.inr (Or.inr ⟨h, rfl, (hp.ex0 2 rfl).w hp⟩)⟩, Nat.le_refl _, Nat.le_refl _⟩⟩
    obtain ⟨i, j, b, h1, h2, h3, h4, h5, h6, h7, h8⟩ := h
    exact ⟨rfl, trivial, ⟨_, rfl, Or.inl ⟨i, j, b, h1, h2, h3, h4, h5, h6, h7, h8.ok hp⟩⟩, Nat.le_refl _, Nat.le_refl _⟩
  · exact fun _ _ _ _ _ h => by cases h
theorem u_ral1 (l : Launch) (hlt : l.stackTraces = false) : UsX l yX14_alter (Cond.codeWith yX14_alter cX14_alter 5 (some .int) [(5, 12, 13, 138), (5, 12, 23, 141)]) (some .int) 8 133 15 T_ral1 := by
  intro Rc Rs av S cs sl K Kx h
  unfold T_ral1 at h
  split at h
  · rename_i t_o s x w
    obtain ⟨t, rfl, h_1⟩ := pa_of h
    obtain ⟨F, z, Y, R, kz, hp, hc, hs, hk⟩ := h_1
    refine ⟨(sp_ral1 t s x w F z Y R kz), c_ral1 l hlt t s x w F z Y R kz, fun _ _ h9 => ⟨_, _, h9.1, (h9.2 0).1⟩, ⟨rfl, hp⟩, hc, hs, fun v9 S' h8 => by
      obtain ⟨v8, h7, h8⟩ := h8
      cases h7
      exact hk _ _ h8, fun _ _ q => q.elim⟩
  · exact h.elim
def otK (k : Nat) : Prop := k = 21 ∨ (25 ≤ k ∧ k ≤ 30)
/-- one of its Outs was written -/
theorem MD.out {S S' : MM} {F : Nat → Nat × Nat} {t : Nat} {z : Nat → Nat} {Y : Nat → Nat → Nat} {R : Rb} {kz : Nat → Nat} (h : MD S F t z Y R kz) {k0 : Nat} (h0 : otK k0) {B : List Nat} (hk : Keep (fun c => c = z k0 ∨ c = z (70 + k0)) S S') (hB : Ou S' (z k0) (z (70 + k0)) B) : MD S' F t z Y R kz ∧ mI S' 1551 t = mI S 1551 t ∧ Keep (fun c => 100 ≤ (F c).1) S S' := by
  obtain ⟨b1, b2, b3, -⟩ := h 10 k0 h0
  have no : ∀ {x o v}, F x = (o, v) → (o ≠ 110 ∨ (v ≠ k0 ∧ v ≠ 100 + k0)) → ¬ (x = z k0 ∨ x = z (70 + k0)) := fun {x o v} e h1 q => by
    rcases q with q | q
    · rw [q, b2] at e
      injection e with e1 e2
      omega
    · rw [q, b3] at e
      injection e with e1 e2
      omega
  have kt := hk.2.1 t (h 0).1.1 (no (h 0).2 (Or.inl (by decide)))
  refine ⟨h.keep hk (fun b hb => ?_) (fun k hk9 => ?_) (fun f _ => kt.1 f) kt.2.1 (fun k hk9 => ?_) (fun _ _ => rfl) (fun b hb => (hk.1 b (h 12 b hb)).1), kt.1 1551, hk.mono (fun b _ q => ?_)⟩
  · rcases hb with e | e
    · rw [e, b2]; exact Or.inr rfl
    · rw [e, b3]; exact Or.inr rfl
  · have hm : k ∈ mdL := by
      have : ∀ k, k ∈ mdP → k ∈ mdL := by decide
      exact this k hk9
    obtain ⟨-, a2, a3, -⟩ := h 1 k hm
    have := hk.2.1 _ a3.1 (no a2 (Or.inl (by decide)))
    exact ⟨this.2.2.2.1, this.2.2.2.2.2⟩
  · obtain ⟨a1, a2, a3, B', a4⟩ := h 10 k hk9
    by_cases c : k = k0
    · subst c
      exact ⟨(kt.2.1 _).trans a1, a2, a3, B, hB⟩
    · have h0' : k0 ≤ 30 := by rcases h0 with e | e <;> omega
      have hk' : k ≤ 30 := by rcases hk9 with e | e <;> omega
      exact ⟨(kt.2.1 _).trans a1, a2, a3, B', a4.kp hk (no a2 (Or.inr (by omega))) (no a3 (Or.inr (by omega)))⟩
  · rcases q with e | e
    · rw [e, b2]; show 100 ≤ 110; omega
    · rw [e, b3]; show 100 ≤ 110; omega
def ouQ (S S' : MM) (F : Nat → Nat × Nat) (t : Nat) (z : Nat → Nat) (Y : Nat → Nat → Nat) (R : Rb) (kz : Nat → Nat) (k0 : Nat) (B : List Nat) : Prop := MD S' F t z Y R kz ∧ Ou S' (z k0) (z (70 + k0)) B ∧ Keep (fun c => c = z k0 ∨ c = z (70 + k0)) S S'
def T_rbgn : TR := fun Rc Rs av S cs sl K _Kx => match av with
  | [.inr (.inr t_o), .inl k2_v, .inl p_v] => pa t_o fun t => (∃ (k2 : Nat), k2_v = nI k2 ∧ (∃ (p : Nat), p_v = nI p ∧ (∃ (F : Nat → Nat × Nat) (z : Nat → Nat) (Y : Nat → Nat → Nat) (R : Rb) (kz : Nat → Nat), (MD S F t z Y R kz ∧ k2 < 256 ∧ p < 256) ∧ cs ≤ Rc ∧ sl ≤ Rs ∧ (∀ (S' : MM), (ouQ S S' F t z Y R kz 21 [87, k2, p]) → K none S' cs sl))))
  | _ => False
def sp_rbgn (t : Nat) (k2 : Nat) (p : Nat) (F : Nat → Nat × Nat) (z : Nat → Nat) (Y : Nat → Nat → Nat) (R : Rb) (kz : Nat → Nat) : Sp := (fun av S => av = [.inr (.inr (some t)), .inl (nI k2), .inl (nI p)] ∧ (MD S F t z Y R kz ∧ k2 < 256 ∧ p < 256), fun _ S => 0, fun _ S => 0, fun _ S rv S' => rv = none ∧ (ouQ S S' F t z Y R kz 21 [87, k2, p]), fun _ _ _ _ => False)
def tX14_begin : CD := [(0, .aload_n 0), (1, .getfield 63), (4, .iconst 0), (5, .putfield 309), (8, .aload_n 0), (9, .getfield 63), (12, .bipush 87), (14, .invokevirtual 312), (17, .aload_n 0), (18, .getfield 63), (21, .iload_n 1), (22, .invokevirtual 312), (25, .aload_n 0), (26, .getfield 63), (29, .iload_n 2), (30, .invokevirtual 312), (33, .return_)]
set_option maxRecDepth 100000 in
theorem kX14_begin : chk cX14_begin tX14_begin = true := by decide +kernel
theorem vX14_begin_312 : ∀ w ∈ ([.methodLink RX14 312 yX13_one, .instanceMethod yX13_one, .selects yX13_one.cls yX13_one yX13_one, .initialized yX13_one.cls, .code yX13_one cX13_one 2 none] : List Cond), w ∈ lw_good := List.forall_mem_cons.mpr ⟨mgd 2250 (by decide +kernel) (by decide +kernel), List.forall_mem_cons.mpr ⟨mgd 2251 (by decide +kernel) (by decide +kernel), List.forall_mem_cons.mpr ⟨mgd 2252 (by decide +kernel) (by decide +kernel), List.forall_mem_cons.mpr ⟨mgd 137 (by decide +kernel) (by decide +kernel), List.forall_mem_cons.mpr ⟨mgd 2253 (by decide +kernel) (by decide +kernel), fun _ h => absurd h List.not_mem_nil⟩⟩⟩⟩⟩
set_option maxRecDepth 100000 in
set_option maxHeartbeats 2000000 in
theorem c_rbgn (l : Launch) : ∀ (t : Nat) (k2 : Nat) (p : Nat) (F : Nat → Nat × Nat) (z : Nat → Nat) (Y : Nat → Nat → Nat) (R : Rb) (kz : Nat → Nat), Ct l yX14_begin cX14_begin 3 none 1 21 (sp_rbgn t k2 p F z Y R kz) := by
  intro t k2 p F z Y R kz
  refine Ct.of (fX14, nX14, aX14, iX14, lX14, [(312, 0, 2, 0, T_oon)], qX14, gX14, []) false tX14_begin (fun _ _ _ => none) (by decide) (by decide) kX14_begin ⟨_, _, rfl⟩ fX14_ok nX14_ok aX14_ok iX14_ok lX14_ok (fun p e R s m args below meth c Q D cy z r A C hR1 hR2 => List.forall_mem_cons.mpr ⟨cOK_use (fun _ _ _ _ _ _ _ _ h => let ⟨sp, h1, h2, h3⟩ := u_oon l _ _ _ _ _ _ _ _ h; ⟨sp, cOK_V C h1 vX14_begin_312 ⟨by decide, by decide, by decide +kernel⟩ ⟨by rw [hR1]; decide, by rw [hR2]; decide⟩ (k := 14) (T := TX13) (N := 2) rfl (by decide) h2, h3⟩), fun _ h => absurd h List.not_mem_nil⟩) qX14_ok gX14_ok rfl ?_ ?_
  · rintro _ S ⟨rfl, hp⟩
    refine ⟨Nat.le_of_ble_eq_true rfl, 300, ?_⟩
    show (isO S 15 t ∧ (True ∧ (pa (mR S 1521 t) fun a_1 => isO S 14 a_1 ∧ (isO (sI S 1401 a_1 (0 : Int32)) 15 t ∧ (0 = 0 ∧ ((pa (mR (sI S 1401 a_1 (0 : Int32)) 1521 t) fun a_2 => (∃ (cb_3 : Nat) (B_4 : List Nat), (Ou (sI S 1401 a_1 (0 : Int32)) a_2 cb_3 B_4 ∧ B_4.length < 1000000) ∧ 0 ≤ 0 ∧ 0 ≤ 0 ∧ (∀ (S_5 : MM), (ouP (sI S 1401 a_1 (0 : Int32)) S_5 a_2 cb_3 (B_4 ++ [b8 (87 : Int32)])) → (isO S_5 15 t ∧ (0 = 0 ∧ ((pa (mR S_5 1521 t) fun a_6 => (∃ (cb_7 : Nat) (B_8 : List Nat), (Ou S_5 a_6 cb_7 B_8 ∧ B_8.length < 1000000) ∧ 0 ≤ 0 ∧ 0 ≤ 0 ∧ (∀ (S_9 : MM), (ouP S_5 S_9 a_6 cb_7 (B_8 ++ [b8 (nI k2)])) → (isO S_9 15 t ∧ (0 = 0 ∧ ((pa (mR S_9 1521 t) fun a_10 => (∃ (cb_11 : Nat) (B_12 : List Nat), (Ou S_9 a_10 cb_11 B_12 ∧ B_12.length < 1000000) ∧ 0 ≤ 0 ∧ 0 ≤ 0 ∧ (∀ (S_13 : MM), (ouP S_9 S_13 a_10 cb_11 (B_12 ++ [b8 (nI p)])) → (([] : List MV) = [] ∧ mret none (sp_rbgn t k2 p F z Y R kz) [.inr (.inr (some t)), .inl (nI k2), .inl (nI p)] S none S_13 0 0))))))))))))))))))))))
    obtain ⟨h, hk2, hp4⟩ := hp
    obtain ⟨a1, a2, a3, B, a4⟩ := h 10 21 (Or.inl rfl)
    have o0 : Ou (sI S 1401 (z 21) 0) (z 21) (z (70 + 21)) [] := ⟨a4.1, a4.2.1, a4.2.2.1, a4.2.2.2.1, by rw [mI_sI, if_pos ⟨rfl, rfl⟩]; rfl, Nat.zero_le _, (fun x hx => by cases hx), a4.2.2.2.2.2.2.2.1, (fun j hj => absurd hj (Nat.not_lt_zero j))⟩
    have k0 : Keep (fun c => c = z 21 ∨ c = z (70 + 21)) S (sI S 1401 (z 21) 0) := Keep.sI (P := fun c => c = z 21 ∨ c = z (70 + 21)) Keep.rf (Or.inl rfl)
    refine ⟨(h 0).1, trivial, pa_i a1 ⟨a4.1, (h 0).1, rfl, pa_i a1 ⟨z (70 + 21), [], ⟨o0, by decide⟩, Nat.le_refl _, Nat.le_refl _, fun S5 q => ?_⟩⟩⟩
    obtain ⟨o5, k5⟩ := q
    have K5 := k0.tr k5
    have m5 := (h.out (k0 := 21) (Or.inl rfl) K5 o5).1
    refine ⟨(m5 0).1, rfl, pa_i (m5 10 21 (Or.inl rfl)).1 ⟨z (70 + 21), _, ⟨o5, show 1 < 1000000 by decide⟩, Nat.le_refl _, Nat.le_refl _, fun S9 q => ?_⟩⟩
    obtain ⟨o9, k9⟩ := q
    have K9 := K5.tr k9
    have m9 := (h.out (k0 := 21) (Or.inl rfl) K9 o9).1
    refine ⟨(m9 0).1, rfl, pa_i (m9 10 21 (Or.inl rfl)).1 ⟨z (70 + 21), _, ⟨o9, show 2 < 1000000 by decide⟩, Nat.le_refl _, Nat.le_refl _, fun S13 q => ?_⟩⟩
    obtain ⟨o13, k13⟩ := q
    have K13 := K9.tr k13
    have m13 := (h.out (k0 := 21) (Or.inl rfl) K13 o13).1
    rw [b8_nI hk2, b8_nI hp4, show b8 87 = 87 by decide] at o13
    exact ⟨rfl, trivial, ⟨rfl, m13, o13, K13⟩, Nat.le_refl _, Nat.le_refl _⟩
  · exact fun _ _ _ _ _ h => by cases h
theorem u_rbgn (l : Launch) : Us l yX14_begin cX14_begin 3 none 1 21 15 T_rbgn := by
  intro Rc Rs av S cs sl K Kx h
  unfold T_rbgn at h
  split at h
  · rename_i t_o k2_v p_v
    obtain ⟨t, rfl, h_1⟩ := pa_of h
    obtain ⟨k2, rfl, h_2⟩ := h_1
    obtain ⟨p, rfl, h_3⟩ := h_2
    obtain ⟨F, z, Y, R, kz, hp, hc, hs, hk⟩ := h_3
    refine ⟨(sp_rbgn t k2 p F z Y R kz), c_rbgn l t k2 p F z Y R kz, fun _ _ h9 => ⟨_, _, h9.1, (h9.2.1 0).1⟩, ⟨rfl, hp⟩, hc, hs, fun S' h8 => by
      obtain ⟨-, h8⟩ := h8
      exact hk _ h8, fun _ _ q => q.elim⟩
  · exact h.elim
def clB (c : Int32) (k : Nat) : Nat := b8 (c >>> ((8 : Int32) * nI k &&& 31))
def I_clo (t : Nat) (c : Int32) (B : List Nat) (F : Nat → Nat × Nat) (z : Nat → Nat) (Y : Nat → Nat → Nat) (R : Rb) (kz : Nat → Nat) (S : MM) (k : Nat) : KT := fun lo st S1 cs sl => ∃ j, j + k = 4 ∧ ouQ S S1 F t z Y R kz 21 (B ++ (List.range j).map (clB c)) ∧ lo = [(0, .inr (.inr (some t))), (1, .inl c), (2, .inl (nI j))] ∧ st = [] ∧ cs = 0 ∧ sl = 0
def T_rclo : TR := fun Rc Rs av S cs sl K _Kx => match av with
  | [.inr (.inr t_o)] => pa t_o fun t => (∃ (F : Nat → Nat × Nat) (z : Nat → Nat) (Y : Nat → Nat → Nat) (R : Rb) (kz : Nat → Nat) (B : List Nat), (MD S F t z Y R kz ∧ Ou S (z 21) (z (70 + 21)) B ∧ B.length ≤ 32768) ∧ cs ≤ Rc ∧ sl ≤ Rs ∧ (∀ (S' : MM), (ouQ S S' F t z Y R kz 21 (B ++ (List.range 4).map (clB (crB B B.length ^^^ -1)))) → K none S' cs sl))
  | _ => False
def sp_rclo (t : Nat) (F : Nat → Nat × Nat) (z : Nat → Nat) (Y : Nat → Nat → Nat) (R : Rb) (kz : Nat → Nat) (B : List Nat) : Sp := (fun av S => av = [.inr (.inr (some t))] ∧ (MD S F t z Y R kz ∧ Ou S (z 21) (z (70 + 21)) B ∧ B.length ≤ 32768), fun _ S => 0, fun _ S => 0, fun _ S rv S' => rv = none ∧ (ouQ S S' F t z Y R kz 21 (B ++ (List.range 4).map (clB (crB B B.length ^^^ -1)))), fun _ _ _ _ => False)
def tX14_close : CD := [(0, .aload_n 0), (1, .getfield 63), (4, .getfield 316), (7, .aload_n 0), (8, .getfield 63), (11, .getfield 309), (14, .invokestatic 319), (17, .istore_n 1), (18, .iconst 0), (19, .istore_n 2), (20, .iload_n 2), (21, .iconst 4), (22, .if_icmp .ge 22), (25, .aload_n 0), (26, .getfield 63), (29, .iload_n 1), (30, .bipush 8), (32, .iload_n 2), (33, .imul), (34, .ishr), (35, .invokevirtual 312), (38, .iinc 2 1), (41, .goto (-21)), (44, .return_)]
set_option maxRecDepth 100000 in
theorem kX14_close : chk cX14_close tX14_close = true := by decide +kernel
theorem vX14_close_319 : ∀ w ∈ ([.methodLink RX14 319 yX14_checksum, .static yX14_checksum, .initialized yX14_checksum.cls, .code yX14_checksum cX14_checksum 5 (some .int)] : List Cond), w ∈ lw_good := List.forall_mem_cons.mpr ⟨mgd 2265 (by decide +kernel) (by decide +kernel), List.forall_mem_cons.mpr ⟨mgd 2266 (by decide +kernel) (by decide +kernel), List.forall_mem_cons.mpr ⟨mgd 136 (by decide +kernel) (by decide +kernel), List.forall_mem_cons.mpr ⟨mgd 2267 (by decide +kernel) (by decide +kernel), fun _ h => absurd h List.not_mem_nil⟩⟩⟩⟩
theorem vX14_close_312 : ∀ w ∈ ([.methodLink RX14 312 yX13_one, .instanceMethod yX13_one, .selects yX13_one.cls yX13_one yX13_one, .initialized yX13_one.cls, .code yX13_one cX13_one 2 none] : List Cond), w ∈ lw_good := List.forall_mem_cons.mpr ⟨mgd 2250 (by decide +kernel) (by decide +kernel), List.forall_mem_cons.mpr ⟨mgd 2251 (by decide +kernel) (by decide +kernel), List.forall_mem_cons.mpr ⟨mgd 2252 (by decide +kernel) (by decide +kernel), List.forall_mem_cons.mpr ⟨mgd 137 (by decide +kernel) (by decide +kernel), List.forall_mem_cons.mpr ⟨mgd 2253 (by decide +kernel) (by decide +kernel), fun _ h => absurd h List.not_mem_nil⟩⟩⟩⟩⟩
set_option maxRecDepth 100000 in
set_option maxHeartbeats 2000000 in
theorem c_rclo (l : Launch) : ∀ (t : Nat) (F : Nat → Nat × Nat) (z : Nat → Nat) (Y : Nat → Nat → Nat) (R : Rb) (kz : Nat → Nat) (B : List Nat), Ct l yX14_close cX14_close 3 none 1 24 (sp_rclo t F z Y R kz B) := by
  intro t F z Y R kz B
  refine Ct.of (fX14, nX14, aX14, iX14, lX14, [(319, 2, 2, 1, T_rcs), (312, 0, 2, 0, T_oon)], qX14, gX14, []) false tX14_close (fun _ S => look [(20, ([0,1,2], I_clo t (crB B B.length ^^^ -1) B F z Y R kz S))]) (by decide) (by decide) kX14_close ⟨_, _, rfl⟩ fX14_ok nX14_ok aX14_ok iX14_ok lX14_ok (fun p e R s m args below meth c Q D cy z r A C hR1 hR2 => List.forall_mem_cons.mpr ⟨cOK_use (fun _ _ _ _ _ _ _ _ h => let ⟨sp, h1, _, h3⟩ := u_rcs l _ _ _ _ _ _ _ _ h; ⟨sp, cOK_S C h1 vX14_close_319 ⟨by decide, by decide, by decide +kernel⟩ ⟨by rw [hR1]; decide, by rw [hR2]; decide⟩, h3⟩), List.forall_mem_cons.mpr ⟨cOK_use (fun _ _ _ _ _ _ _ _ h => let ⟨sp, h1, h2, h3⟩ := u_oon l _ _ _ _ _ _ _ _ h; ⟨sp, cOK_V C h1 vX14_close_312 ⟨by decide, by decide, by decide +kernel⟩ ⟨by rw [hR1]; decide, by rw [hR2]; decide⟩ (k := 14) (T := TX13) (N := 2) rfl (by decide) h2, h3⟩), fun _ h => absurd h List.not_mem_nil⟩⟩) qX14_ok gX14_ok rfl ?_ ?_
  · rintro _ S ⟨rfl, hp⟩
    refine ⟨Nat.le_of_ble_eq_true rfl, 300, ?_⟩
    show (isO S 15 t ∧ (pa (mR S 1521 t) fun a_1 => isO S 14 a_1 ∧ (isO S 15 t ∧ (pa (mR S 1521 t) fun a_2 => isO S 14 a_2 ∧ (2 = 2 ∧ ((pa (mR S 1400 a_1) fun a_3 => (∃ (n_4 : Nat), mI S 1401 a_2 = nI n_4 ∧ (∃ (B_5 : List Nat), (isO S 16 a_3 ∧ n_4 ≤ mN S a_3 ∧ mN S a_3 ≤ 100000 ∧ ∀ j, j < n_4 → eI S a_3 j &&& 255 = nI (B_5.getD j 0)) ∧ 0 ≤ 0 ∧ 0 ≤ 0 ∧ ((∃ k1, I_clo t (crB B B.length ^^^ -1) B F z Y R kz S k1 [(0, .inr (.inr (some t))), (1, .inl (crB B_5 n_4 ^^^ -1)), (2, .inl (0 : Int32))] [] S 0 0)))))))))))
    obtain ⟨h, hO, hl⟩ := hp
    obtain ⟨a1, -⟩ := h 10 21 (Or.inl rfl)
    obtain ⟨o1, o2, o3, o4, o5, o6, o7, o8, o9⟩ := id hO
    have hOn : ouQ S S F t z Y R kz 21 (B ++ (List.range 0).map (clB (crB B B.length ^^^ -1))) := ⟨h, by rw [List.range_zero, List.map_nil, List.append_nil]; exact hO, Keep.rf⟩
    exact ⟨(h 0).1, pa_i a1 ⟨o1, (h 0).1, pa_i a1 ⟨o1, rfl, pa_i o2 ⟨B.length, o5, B, ⟨o3, by rw [o4]; omega, by rw [o4]; decide, fun j hj => o9 j hj (by omega)⟩, Nat.le_refl _, Nat.le_refl _, 4, 0, rfl, hOn, rfl, rfl, rfl, rfl⟩⟩⟩⟩
  · intro av S hpre pc I hI k lo st S1 cs sl h
    obtain ⟨rfl, hp⟩ := hpre
    have hm := look_in hI
    rw [List.mem_singleton] at hm
    cases hm
    obtain ⟨j, hj, hQ, rfl, rfl, rfl, rfl⟩ := h
    refine ⟨300, ?_⟩
    show (((4 : Int32) ≤ (nI j) → (([] : List MV) = [] ∧ mret none (sp_rclo t F z Y R kz B) [.inr (.inr (some t))] S none S1 0 0)) ∧ (¬ (4 : Int32) ≤ (nI j) → (isO S1 15 t ∧ (0 = 0 ∧ ((pa (mR S1 1521 t) fun a_1 => (∃ (cb_2 : Nat) (B_3 : List Nat), (Ou S1 a_1 cb_2 B_3 ∧ B_3.length < 1000000) ∧ 0 ≤ 0 ∧ 0 ≤ 0 ∧ (∀ (S_4 : MM), (ouP S1 S_4 a_1 cb_2 (B_3 ++ [b8 ((crB B B.length ^^^ -1) >>> (((8 : Int32) * (nI j)) &&& 31))])) → (∃ k1, k1 < k ∧ I_clo t (crB B B.length ^^^ -1) B F z Y R kz S k1 [(0, .inr (.inr (some t))), (1, .inl (crB B B.length ^^^ -1)), (2, .inl ((nI j) + (1 : Int32)))] [] S_4 0 0)))))))))
    obtain ⟨h, hO, hl⟩ := hp
    obtain ⟨h1, o1, k1⟩ := hQ
    obtain ⟨a1, -⟩ := h1 10 21 (Or.inl rfl)
    refine if_le (a := 4) (b := j) (by decide) (by omega) (fun w => ?_) (fun w => ?_)
    · have hj4 : j = 4 := by omega
      subst hj4
      exact ⟨rfl, trivial, ⟨rfl, h1, o1, k1⟩, Nat.le_refl _, Nat.le_refl _⟩
    · refine ⟨(h1 0).1, rfl, pa_i a1 ⟨z (70 + 21), _, ⟨o1, ?_⟩, Nat.le_refl _, Nat.le_refl _, fun S4 q => ?_⟩⟩
      · rw [List.length_append, List.length_map, List.length_range]; omega
      · obtain ⟨o4, k4⟩ := q
        have K4 := k1.tr k4
        have m4 := (h.out (k0 := 21) (Or.inl rfl) K4 o4).1
        refine ⟨k - 1, by omega, j + 1, by omega, ⟨m4, ?_, K4⟩, by rw [nI_1], rfl, rfl, rfl⟩
        rw [List.range_succ, List.map_append, ← List.append_assoc]
        exact o4
theorem u_rclo (l : Launch) : Us l yX14_close cX14_close 3 none 1 24 15 T_rclo := by
  intro Rc Rs av S cs sl K Kx h
  unfold T_rclo at h
  split at h
  · rename_i t_o
    obtain ⟨t, rfl, h_1⟩ := pa_of h
    obtain ⟨F, z, Y, R, kz, B, hp, hc, hs, hk⟩ := h_1
    refine ⟨(sp_rclo t F z Y R kz B), c_rclo l t F z Y R kz B, fun _ _ h9 => ⟨_, _, h9.1, (h9.2.1 0).1⟩, ⟨rfl, hp⟩, hc, hs, fun S' h8 => by
      obtain ⟨-, h8⟩ := h8
      exact hk _ h8, fun _ _ q => q.elim⟩
  · exact h.elim
