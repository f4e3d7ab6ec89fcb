/-! ===== The reference's public calls: feed, insert, mark, announce, send ===== -/
def T_rfd1 : TR := fun Rc Rs av S cs sl K _Kx => match av with
  | [.inr (.inr t_o), .inl a, .inl b, .inl c, .inl d, .inl e] => pa t_o fun t => (∃ (F : Nat → Nat × Nat) (z : Nat → Nat) (Y : Nat → Nat → Nat) (R : Rb) (kz : Nat → Nat), (MD S F t z Y R kz) ∧ cs + 1 ≤ Rc ∧ sl + 6 ≤ Rs ∧ (∀ (S' : MM), ((R.Q.tp.length + 20 ≤ 32768 ∧ mdW S S' F t (fdR R a b c d e) kz 0) ∨ ((32768 < R.Q.tp.length + 20) ∧ mdW S S' F t R kz 1)) → K none S' (cs + 1) (sl + 6)))
  | _ => False
def sp_rfd1 (t : Nat) (a : Int32) (b : Int32) (c : Int32) (d : Int32) (e : Int32) (F : Nat → Nat × Nat) (z : Nat → Nat) (Y : Nat → Nat → Nat) (R : Rb) (kz : Nat → Nat) : Sp := (fun av S => av = [.inr (.inr (some t)), .inl a, .inl b, .inl c, .inl d, .inl e] ∧ (MD S F t z Y R kz), fun _ S => 1, fun _ S => 6, fun _ S rv S' => rv = none ∧ ((R.Q.tp.length + 20 ≤ 32768 ∧ mdW S S' F t (fdR R a b c d e) kz 0) ∨ ((32768 < R.Q.tp.length + 20) ∧ mdW S S' F t R kz 1)), fun _ _ _ _ => False)
def tX14_feed : CD := [(0, .aload_n 0), (1, .iconst 0), (2, .putfield 512), (5, .aload_n 0), (6, .iload_n 1), (7, .iload_n 2), (8, .iload_n 3), (9, .iload 4), (11, .iload 5), (13, .invokevirtual 515), (16, .goto 10), (19, .astore 6), (21, .aload_n 0), (22, .iconst 1), (23, .putfield 512), (26, .return_)]
set_option maxRecDepth 100000 in
theorem kX14_feed : chk cX14_feed tX14_feed = true := by decide +kernel
theorem vX14_feed_515 : ∀ w ∈ ([.methodLink RX14 515 yX14_feed0, .instanceMethod yX14_feed0, .selects yX14_feed0.cls yX14_feed0 yX14_feed0, .initialized yX14_feed0.cls, .code yX14_feed0 cX14_feed0 8 none] : List Cond), w ∈ lw_good := List.forall_mem_cons.mpr ⟨mgd 1916 (by decide +kernel) (by decide +kernel), List.forall_mem_cons.mpr ⟨mgd 1918 (by decide +kernel) (by decide +kernel), List.forall_mem_cons.mpr ⟨mgd 49 (by decide +kernel) (by decide +kernel), List.forall_mem_cons.mpr ⟨mgd 136 (by decide +kernel) (by decide +kernel), List.forall_mem_cons.mpr ⟨mgd 1919 (by decide +kernel) (by decide +kernel), fun _ h => absurd h List.not_mem_nil⟩⟩⟩⟩⟩
set_option maxRecDepth 100000 in
set_option maxHeartbeats 2000000 in
theorem c_rfd1 (l : Launch) (hlt : l.stackTraces = false) : ∀ (t : Nat) (a : Int32) (b : Int32) (c : Int32) (d : Int32) (e : Int32) (F : Nat → Nat × Nat) (z : Nat → Nat) (Y : Nat → Nat → Nat) (R : Rb) (kz : Nat → Nat), CtX l yX14_feed (Cond.codeWith yX14_feed cX14_feed 7 none [(5, 16, 19, 156)]) none 7 116 (sp_rfd1 t a b c d e F z Y R kz) := by
  intro t a b c d e F z Y R kz
  refine CtX.ofH hlt (fX14, nX14, aX14, iX14, lX14, [(515, 0, 6, 0, T_rfd0)], qX14, gX14, []) false tX14_feed [((5, 16, 19, 156), 0)] (fun _ _ _ => none) (by decide) (by decide) kX14_feed ⟨_, _, rfl⟩ fX14_ok nX14_ok aX14_ok iX14_ok lX14_ok (fun p e R s m args below meth c Q D cy z r A C hR1 hR2 => List.forall_mem_cons.mpr ⟨cOK_use (fun _ _ _ _ _ _ _ _ h => let ⟨sp, h1, h2, h3⟩ := u_rfd0 l hlt _ _ _ _ _ _ _ _ h; ⟨sp, cOKx_V C h1 vX14_feed_515 ⟨by decide, by decide, by decide +kernel⟩ ⟨by rw [hR1]; decide, by rw [hR2]; decide⟩ (k := 15) (T := TX14) (N := 52) rfl (by decide) h2, h3⟩), fun _ h => absurd h List.not_mem_nil⟩) qX14_ok gX14_ok rfl (List.forall_mem_cons.mpr ⟨⟨by decide, mgd 1915 (by decide +kernel) (by decide +kernel)⟩, fun _ h => absurd h List.not_mem_nil⟩) (fun _ _ _ _ z => z) ?_ ?_
  · rintro _ S ⟨rfl, hp⟩
    refine ⟨Nat.le_of_ble_eq_true rfl, 300, ?_⟩
    show (True ∧ (isO S 15 t ∧ (0 = 0 ∧ (∃ (F_1 : Nat → Nat × Nat) (z_2 : Nat → Nat) (Y_3 : Nat → Nat → Nat) (R_4 : Rb) (kz_5 : Nat → Nat), (MD (sI S 1551 t (0 : Int32)) F_1 t z_2 Y_3 R_4 kz_5) ∧ 0 + 1 ≤ 1 ∧ 0 + 6 ≤ 6 ∧ ((∀ (S_6 : MM), (R_4.Q.tp.length + 20 ≤ 32768 ∧ mdQ (sI S 1551 t (0 : Int32)) S_6 F_1 t (fdR R_4 a b c d e) kz_5) → (([] : List MV) = [] ∧ mret none (sp_rfd1 t a b c d e F z Y R kz) [.inr (.inr (some t)), .inl a, .inl b, .inl c, .inl d, .inl e] S none S_6 (0 + 1) (0 + 6))) ∧ ((32768 < R_4.Q.tp.length + 20) → (∀ e_8, (True ∧ (isO (sI S 1551 t (0 : Int32)) 15 t ∧ (([] : List MV) = [] ∧ mret none (sp_rfd1 t a b c d e F z Y R kz) [.inr (.inr (some t)), .inl a, .inl b, .inl c, .inl d, .inl e] S none (sI (sI S 1551 t (0 : Int32)) 1551 t (1 : Int32)) (0 + 1) (0 + 6)))))))))))
    refine ⟨trivial, (hp 0).1, rfl, F, z, Y, R, kz, hp.th 0, Nat.le_of_eq (Nat.zero_add _), Nat.le_of_eq (Nat.zero_add _), fun S3 h => ?_, fun h e => ⟨trivial, (hp 0).1, rfl, trivial, ⟨rfl, Or.inr (⟨h, (hp.ex0 1 rfl).w hp⟩)⟩, Nat.le_of_eq (Nat.zero_add _), Nat.le_of_eq (Nat.zero_add _)⟩⟩
    obtain ⟨g0, g1⟩ := h
    exact ⟨rfl, trivial, ⟨rfl, Or.inl ⟨g0, g1.ok hp⟩⟩, Nat.le_of_eq (Nat.zero_add _), Nat.le_of_eq (Nat.zero_add _)⟩
  · exact fun _ _ _ _ _ h => by cases h
theorem u_rfd1 (l : Launch) (hlt : l.stackTraces = false) : UsX l yX14_feed (Cond.codeWith yX14_feed cX14_feed 7 none [(5, 16, 19, 156)]) none 7 116 15 T_rfd1 := by
  intro Rc Rs av S cs sl K Kx h
  unfold T_rfd1 at h
  split at h
  · rename_i t_o a b c d e
    obtain ⟨t, rfl, h_1⟩ := pa_of h
    obtain ⟨F, z, Y, R, kz, hp, hc, hs, hk⟩ := h_1
    refine ⟨(sp_rfd1 t a b c d e F z Y R kz), c_rfd1 l hlt t a b c d e F z Y R kz, fun _ _ h9 => ⟨_, _, h9.1, (h9.2 0).1⟩, ⟨rfl, hp⟩, hc, hs, fun S' h8 => by
      obtain ⟨-, h8⟩ := h8
      exact hk _ h8, fun _ _ q => q.elim⟩
  · exact h.elim
def rinW (S S' : MM) (F : Nat → Nat × Nat) (t : Nat) (R : Rb) (kz : Nat → Nat) (p x v : Int32) : Prop := ∃ (n i : Nat) (L : List Nat) (G' : Gr) (T' : Tr), n < 4 ∧ p = nI n ∧ inX R n x i ∧ syms R.Q.tp = some (L.map nI) ∧ roP (R.Q.G n) n L.length ∧ Run n (owN (R.Q.G n) n) (insO i L) (R.Q.G n) (R.Q.T n) G' T' ∧ v = nI L.length ∧ mdW S S' F t (inN R n G' T' L.length) kz 0
theorem rinQ.ok {S S' : MM} {F : Nat → Nat × Nat} {t : Nat} {z : Nat → Nat} {Y : Nat → Nat → Nat} {R : Rb} {kz : Nat → Nat} {p x v : Int32} (h : rinQ (sI S 1551 t 0) S' F t R kz p x v) (hp : MD S F t z Y R kz) : rinW S S' F t R kz p x v := by
  obtain ⟨n, i, L, G', T', a1, a2, a3, a4, a5, a6, a7, a8⟩ := h
  exact ⟨n, i, L, G', T', a1, a2, a3, a4, a5, a6, a7, a8.ok hp⟩
def T_rin1 : TR := fun Rc Rs av S cs sl K _Kx => match av with
  | [.inr (.inr t_o), .inl p, .inl x] => pa t_o fun t => (∃ (F : Nat → Nat × Nat) (z : Nat → Nat) (Y : Nat → Nat → Nat) (R : Rb) (kz : Nat → Nat), (MD S F t z Y R kz ∧ AbC R) ∧ cs + (4 + dC1 R p.toNatClampNeg (tNs R)) ≤ Rc ∧ sl + (24 + dC2 R p.toNatClampNeg (tNs R)) ≤ Rs ∧ (∀ (v : Int32) (S' : MM), ((rinW S S' F t R kz p x v) ∨ ((np 4 p ∨ ∃ n, n < 4 ∧ p = nI n ∧ np (visN (R.Q.G n) (R.Q.T n) + 1) x) ∧ v = 0 ∧ mdW S S' F t R kz 1) ∨ ((∃ n i, n < 4 ∧ p = nI n ∧ inX R n x i) ∧ syms R.Q.tp = none ∧ mdW S S' F t (rtE R) kz 2 ∧ v = 0) ∨ ((∃ (n i : Nat) (L : List Nat), n < 4 ∧ p = nI n ∧ inX R n x i ∧ syms R.Q.tp = some (L.map nI) ∧ ¬ roP (R.Q.G n) n L.length) ∧ mdW S S' F t (rtE R) kz 3 ∧ v = 0)) → K (some (.inl v)) S' (cs + (4 + dC1 R p.toNatClampNeg (tNs R))) (sl + (24 + dC2 R p.toNatClampNeg (tNs R)))))
  | _ => False
def sp_rin1 (t : Nat) (p : Int32) (x : Int32) (F : Nat → Nat × Nat) (z : Nat → Nat) (Y : Nat → Nat → Nat) (R : Rb) (kz : Nat → Nat) : Sp := (fun av S => av = [.inr (.inr (some t)), .inl p, .inl x] ∧ (MD S F t z Y R kz ∧ AbC R), fun _ S => 4 + dC1 R p.toNatClampNeg (tNs R), fun _ S => 24 + dC2 R p.toNatClampNeg (tNs R), fun _ S rv S' => ∃ v, rv = (some (.inl v)) ∧ ((rinW S S' F t R kz p x v) ∨ ((np 4 p ∨ ∃ n, n < 4 ∧ p = nI n ∧ np (visN (R.Q.G n) (R.Q.T n) + 1) x) ∧ v = 0 ∧ mdW S S' F t R kz 1) ∨ ((∃ n i, n < 4 ∧ p = nI n ∧ inX R n x i) ∧ syms R.Q.tp = none ∧ mdW S S' F t (rtE R) kz 2 ∧ v = 0) ∨ ((∃ (n i : Nat) (L : List Nat), n < 4 ∧ p = nI n ∧ inX R n x i ∧ syms R.Q.tp = some (L.map nI) ∧ ¬ roP (R.Q.G n) n L.length) ∧ mdW S S' F t (rtE R) kz 3 ∧ v = 0)), fun _ _ _ _ => False)
def tX14_insert : CD := [(0, .aload_n 0), (1, .iconst 0), (2, .putfield 512), (5, .aload_n 0), (6, .iload_n 1), (7, .iload_n 2), (8, .invokevirtual 522), (11, .ireturn), (12, .astore_n 3), (13, .aload_n 0), (14, .iconst 1), (15, .putfield 512), (18, .goto 18), (21, .astore_n 3), (22, .aload_n 0), (23, .iconst 2), (24, .putfield 512), (27, .goto 9), (30, .astore_n 3), (31, .aload_n 0), (32, .iconst 3), (33, .putfield 512), (36, .iconst 0), (37, .ireturn)]
set_option maxRecDepth 100000 in
theorem kX14_insert : chk cX14_insert tX14_insert = true := by decide +kernel
theorem vX14_insert_522 : ∀ w ∈ ([.methodLink RX14 522 yX14_insert0, .instanceMethod yX14_insert0, .selects yX14_insert0.cls yX14_insert0 yX14_insert0, .initialized yX14_insert0.cls, .code yX14_insert0 cX14_insert0 6 (some .int)] : List Cond), w ∈ lw_good := List.forall_mem_cons.mpr ⟨mgd 1942 (by decide +kernel) (by decide +kernel), List.forall_mem_cons.mpr ⟨mgd 1944 (by decide +kernel) (by decide +kernel), List.forall_mem_cons.mpr ⟨mgd 51 (by decide +kernel) (by decide +kernel), List.forall_mem_cons.mpr ⟨mgd 136 (by decide +kernel) (by decide +kernel), List.forall_mem_cons.mpr ⟨mgd 1945 (by decide +kernel) (by decide +kernel), fun _ h => absurd h List.not_mem_nil⟩⟩⟩⟩⟩
set_option maxRecDepth 100000 in
set_option maxHeartbeats 2000000 in
theorem c_rin1 (l : Launch) (hlt : l.stackTraces = false) : ∀ (t : Nat) (p : Int32) (x : Int32) (F : Nat → Nat × Nat) (z : Nat → Nat) (Y : Nat → Nat → Nat) (R : Rb) (kz : Nat → Nat), CtX l yX14_insert (Cond.codeWith yX14_insert cX14_insert 4 (some .int) [(5, 11, 12, 138), (5, 11, 21, 170), (5, 11, 30, 156)]) (some .int) 9 155 (sp_rin1 t p x F z Y R kz) := by
  intro t p x F z Y R kz
  refine CtX.ofH hlt (fX14, nX14, aX14, iX14, lX14, [(522, 0, 3, 1, T_rin0)], qX14, gX14, []) false tX14_insert [((5, 11, 12, 138), 1), ((5, 11, 21, 170), 3), ((5, 11, 30, 156), 0)] (fun _ _ _ => none) (by decide) (by decide) kX14_insert ⟨_, _, rfl⟩ fX14_ok nX14_ok aX14_ok iX14_ok lX14_ok (fun p e R s m args below meth c Q D cy z r A C hR1 hR2 => List.forall_mem_cons.mpr ⟨cOK_use (fun _ _ _ _ _ _ _ _ h => let ⟨sp, h1, h2, h3⟩ := u_rin0 l hlt _ _ _ _ _ _ _ _ h; ⟨sp, cOKx_V C h1 vX14_insert_522 ⟨by decide, by decide, by decide +kernel⟩ ⟨by rw [hR1]; decide, by rw [hR2]; decide⟩ (k := 15) (T := TX14) (N := 52) rfl (by decide) h2, h3⟩), fun _ h => absurd h List.not_mem_nil⟩) qX14_ok gX14_ok rfl (List.forall_mem_cons.mpr ⟨⟨by decide, mgd 1925 (by decide +kernel) (by decide +kernel)⟩, List.forall_mem_cons.mpr ⟨⟨by decide, mgd 1941 (by decide +kernel) (by decide +kernel)⟩, List.forall_mem_cons.mpr ⟨⟨by decide, mgd 1915 (by decide +kernel) (by decide +kernel)⟩, fun _ h => absurd h List.not_mem_nil⟩⟩⟩) (fun _ _ _ _ z => z) ?_ ?_
  · rintro _ S ⟨rfl, hp⟩
    refine ⟨Nat.le_of_ble_eq_true rfl, 300, ?_⟩
    show (True ∧ (isO S 15 t ∧ (0 = 0 ∧ (∃ (F_1 : Nat → Nat × Nat) (z_2 : Nat → Nat) (Y_3 : Nat → Nat → Nat) (R_4 : Rb) (kz_5 : Nat → Nat), (MD (sI S 1551 t (0 : Int32)) F_1 t z_2 Y_3 R_4 kz_5 ∧ AbC R_4) ∧ 0 + (4 + dC1 R_4 p.toNatClampNeg (tNs R_4)) ≤ 4 + dC1 R p.toNatClampNeg (tNs R) ∧ 0 + (24 + dC2 R_4 p.toNatClampNeg (tNs R_4)) ≤ 24 + dC2 R p.toNatClampNeg (tNs R) ∧ ((∀ (x_7 : Int32) (S_6 : MM), (rinQ (sI S 1551 t (0 : Int32)) S_6 F_1 t R_4 kz_5 p x x_7) → (([] : List MV) = [] ∧ mret (some .int) (sp_rin1 t p x F z Y R kz) [.inr (.inr (some t)), .inl p, .inl x] S (some (.inl x_7)) S_6 (0 + (4 + dC1 R_4 p.toNatClampNeg (tNs R_4))) (0 + (24 + dC2 R_4 p.toNatClampNeg (tNs R_4))))) ∧ ((np 4 p ∨ ∃ n, n < 4 ∧ p = nI n ∧ np (visN (R_4.Q.G n) (R_4.Q.T n) + 1) x) → (∀ e_9, (True ∧ (isO (sI S 1551 t (0 : Int32)) 15 t ∧ (([] : List MV) = [] ∧ mret (some .int) (sp_rin1 t p x F z Y R kz) [.inr (.inr (some t)), .inl p, .inl x] S (some (.inl (0 : Int32))) (sI (sI S 1551 t (0 : Int32)) 1551 t (1 : Int32)) (0 + (4 + dC1 R_4 p.toNatClampNeg (tNs R_4))) (0 + (24 + dC2 R_4 p.toNatClampNeg (tNs R_4)))))))) ∧ (∀ (S_10 : MM), ((∃ n i, n < 4 ∧ p = nI n ∧ inX R_4 n x i) ∧ syms R_4.Q.tp = none ∧ mdQ (sI S 1551 t (0 : Int32)) S_10 F_1 t (rtE R_4) kz_5) → (∀ e_11, (True ∧ (isO S_10 15 t ∧ (([] : List MV) = [] ∧ mret (some .int) (sp_rin1 t p x F z Y R kz) [.inr (.inr (some t)), .inl p, .inl x] S (some (.inl (0 : Int32))) (sI S_10 1551 t (2 : Int32)) (0 + (4 + dC1 R_4 p.toNatClampNeg (tNs R_4))) (0 + (24 + dC2 R_4 p.toNatClampNeg (tNs R_4)))))))) ∧ (∀ (S_12 : MM), ((∃ (n i : Nat) (L : List Nat), n < 4 ∧ p = nI n ∧ inX R_4 n x i ∧ syms R_4.Q.tp = some (L.map nI) ∧ ¬ roP (R_4.Q.G n) n L.length) ∧ mdQ (sI S 1551 t (0 : Int32)) S_12 F_1 t (rtE R_4) kz_5) → (∀ e_13, (True ∧ (isO S_12 15 t ∧ (([] : List MV) = [] ∧ mret (some .int) (sp_rin1 t p x F z Y R kz) [.inr (.inr (some t)), .inl p, .inl x] S (some (.inl (0 : Int32))) (sI S_12 1551 t (3 : Int32)) (0 + (4 + dC1 R_4 p.toNatClampNeg (tNs R_4))) (0 + (24 + dC2 R_4 p.toNatClampNeg (tNs R_4)))))))))))))
    obtain ⟨hp, hA⟩ := hp
    refine ⟨trivial, (hp 0).1, rfl, F, z, Y, R, kz, ⟨hp.th 0, hA⟩, Nat.le_of_eq (Nat.zero_add _), Nat.le_of_eq (Nat.zero_add _), fun v S3 h => ?_, fun h e => ⟨trivial, (hp 0).1, rfl, trivial, ⟨_, rfl, Or.inr (Or.inl ⟨h, rfl, (hp.ex0 1 rfl).w hp⟩)⟩, Nat.le_of_eq (Nat.zero_add _), Nat.le_of_eq (Nat.zero_add _)⟩, fun S9 h e => ?_, fun S9 h e => ?_⟩
    · have g0 := h
      exact ⟨rfl, trivial, ⟨_, rfl, Or.inl (rinQ.ok g0 hp)⟩, Nat.le_of_eq (Nat.zero_add _), Nat.le_of_eq (Nat.zero_add _)⟩
    · obtain ⟨g0, g1, g2⟩ := h
      obtain ⟨F9, z9, Y9, M9, -⟩ := id g2
      exact ⟨trivial, (M9 0).1, rfl, trivial, ⟨_, rfl, Or.inr (Or.inr (Or.inl ⟨g0, g1, g2.ex hp 2 rfl, rfl⟩))⟩, Nat.le_of_eq (Nat.zero_add _), Nat.le_of_eq (Nat.zero_add _)⟩
    · obtain ⟨g0, g1⟩ := h
      obtain ⟨F9, z9, Y9, M9, -⟩ := id g1
      exact ⟨trivial, (M9 0).1, rfl, trivial, ⟨_, rfl, Or.inr (Or.inr (Or.inr (⟨g0, g1.ex hp 3 rfl, rfl⟩)))⟩, Nat.le_of_eq (Nat.zero_add _), Nat.le_of_eq (Nat.zero_add _)⟩
  · exact fun _ _ _ _ _ h => by cases h
theorem u_rin1 (l : Launch) (hlt : l.stackTraces = false) : UsX l yX14_insert (Cond.codeWith yX14_insert cX14_insert 4 (some .int) [(5, 11, 12, 138), (5, 11, 21, 170), (5, 11, 30, 156)]) (some .int) 9 155 15 T_rin1 := by
  intro Rc Rs av S cs sl K Kx h
  unfold T_rin1 at h
  split at h
  · rename_i t_o p x
    obtain ⟨t, rfl, h_1⟩ := pa_of h
    obtain ⟨F, z, Y, R, kz, hp, hc, hs, hk⟩ := h_1
    refine ⟨(sp_rin1 t p x F z Y R kz), c_rin1 l hlt t p x F z Y R kz, fun _ _ h9 => ⟨_, _, h9.1, (h9.2.1 0).1⟩, ⟨rfl, hp⟩, hc, hs, fun v9 S' h8 => by
      obtain ⟨v8, h7, h8⟩ := h8
      cases h7
      exact hk _ _ h8, fun _ _ q => q.elim⟩
  · exact h.elim
def T_rmk1 : TR := fun Rc Rs av S cs sl K _Kx => match av with
  | [.inr (.inr t_o), .inl s, .inl p] => pa t_o fun t => (∃ (F : Nat → Nat × Nat) (z : Nat → Nat) (Y : Nat → Nat → Nat) (R : Rb) (kz : Nat → Nat), (MD S F t z Y R kz) ∧ cs + 2 ≤ Rc ∧ sl + 12 ≤ Rs ∧ (∀ (v : Int32) (S' : MM), ((∃ i n, i < 8 ∧ s = nI i ∧ n < 4 ∧ p = nI n ∧ v = nI (R.Q.G n).n ∧ mdW S S' F t (mkR R i n) kz 0) ∨ ((np 8 s ∨ np 4 p) ∧ v = 0 ∧ mdW S S' F t R kz 1)) → K (some (.inl v)) S' (cs + 2) (sl + 12)))
  | _ => False
def sp_rmk1 (t : Nat) (s : Int32) (p : Int32) (F : Nat → Nat × Nat) (z : Nat → Nat) (Y : Nat → Nat → Nat) (R : Rb) (kz : Nat → Nat) : Sp := (fun av S => av = [.inr (.inr (some t)), .inl s, .inl p] ∧ (MD S F t z Y R kz), fun _ S => 2, fun _ S => 12, fun _ S rv S' => ∃ v, rv = (some (.inl v)) ∧ ((∃ i n, i < 8 ∧ s = nI i ∧ n < 4 ∧ p = nI n ∧ v = nI (R.Q.G n).n ∧ mdW S S' F t (mkR R i n) kz 0) ∨ ((np 8 s ∨ np 4 p) ∧ v = 0 ∧ mdW S S' F t R kz 1)), fun _ _ _ _ => False)
def tX14_mark : CD := [(0, .aload_n 0), (1, .iconst 0), (2, .putfield 512), (5, .aload_n 0), (6, .iload_n 1), (7, .iload_n 2), (8, .invokevirtual 561), (11, .ireturn), (12, .astore_n 3), (13, .aload_n 0), (14, .iconst 1), (15, .putfield 512), (18, .iconst 0), (19, .ireturn)]
set_option maxRecDepth 100000 in
theorem kX14_mark : chk cX14_mark tX14_mark = true := by decide +kernel
theorem vX14_mark_561 : ∀ w ∈ ([.methodLink RX14 561 yX14_mark0, .instanceMethod yX14_mark0, .selects yX14_mark0.cls yX14_mark0 yX14_mark0, .initialized yX14_mark0.cls, .code yX14_mark0 cX14_mark0 4 (some .int)] : List Cond), w ∈ lw_good := List.forall_mem_cons.mpr ⟨mgd 2179 (by decide +kernel) (by decide +kernel), List.forall_mem_cons.mpr ⟨mgd 2181 (by decide +kernel) (by decide +kernel), List.forall_mem_cons.mpr ⟨mgd 76 (by decide +kernel) (by decide +kernel), List.forall_mem_cons.mpr ⟨mgd 136 (by decide +kernel) (by decide +kernel), List.forall_mem_cons.mpr ⟨mgd 2182 (by decide +kernel) (by decide +kernel), fun _ h => absurd h List.not_mem_nil⟩⟩⟩⟩⟩
set_option maxRecDepth 100000 in
set_option maxHeartbeats 2000000 in
theorem c_rmk1 (l : Launch) (hlt : l.stackTraces = false) : ∀ (t : Nat) (s : Int32) (p : Int32) (F : Nat → Nat × Nat) (z : Nat → Nat) (Y : Nat → Nat → Nat) (R : Rb) (kz : Nat → Nat), CtX l yX14_mark (Cond.codeWith yX14_mark cX14_mark 4 (some .int) [(5, 11, 12, 138)]) (some .int) 9 153 (sp_rmk1 t s p F z Y R kz) := by
  intro t s p F z Y R kz
  refine CtX.ofH hlt (fX14, nX14, aX14, iX14, lX14, [(561, 0, 3, 1, T_rmk0)], qX14, gX14, []) false tX14_mark [((5, 11, 12, 138), 1)] (fun _ _ _ => none) (by decide) (by decide) kX14_mark ⟨_, _, rfl⟩ fX14_ok nX14_ok aX14_ok iX14_ok lX14_ok (fun p e R s m args below meth c Q D cy z r A C hR1 hR2 => List.forall_mem_cons.mpr ⟨cOK_use (fun _ _ _ _ _ _ _ _ h => let ⟨sp, h1, h2, h3⟩ := u_rmk0 l hlt _ _ _ _ _ _ _ _ h; ⟨sp, cOKx_V C h1 vX14_mark_561 ⟨by decide, by decide, by decide +kernel⟩ ⟨by rw [hR1]; decide, by rw [hR2]; decide⟩ (k := 15) (T := TX14) (N := 52) rfl (by decide) h2, h3⟩), fun _ h => absurd h List.not_mem_nil⟩) qX14_ok gX14_ok rfl (List.forall_mem_cons.mpr ⟨⟨by decide, mgd 1925 (by decide +kernel) (by decide +kernel)⟩, fun _ h => absurd h List.not_mem_nil⟩) (fun _ _ _ _ z => z) ?_ ?_
  · rintro _ S ⟨rfl, hp⟩
    refine ⟨Nat.le_of_ble_eq_true rfl, 300, ?_⟩
    show (True ∧ (isO S 15 t ∧ (0 = 0 ∧ (∃ (F_1 : Nat → Nat × Nat) (z_2 : Nat → Nat) (Y_3 : Nat → Nat → Nat) (R_4 : Rb) (kz_5 : Nat → Nat), (MD (sI S 1551 t (0 : Int32)) F_1 t z_2 Y_3 R_4 kz_5) ∧ 0 + 2 ≤ 2 ∧ 0 + 12 ≤ 12 ∧ ((∀ (x_7 : Int32) (S_6 : MM), (∃ i n, i < 8 ∧ s = nI i ∧ n < 4 ∧ p = nI n ∧ x_7 = nI (R_4.Q.G n).n ∧ mdQ (sI S 1551 t (0 : Int32)) S_6 F_1 t (mkR R_4 i n) kz_5) → (([] : List MV) = [] ∧ mret (some .int) (sp_rmk1 t s p F z Y R kz) [.inr (.inr (some t)), .inl s, .inl p] S (some (.inl x_7)) S_6 (0 + 2) (0 + 12))) ∧ ((np 8 s ∨ np 4 p) → (∀ e_9, (True ∧ (isO (sI S 1551 t (0 : Int32)) 15 t ∧ (([] : List MV) = [] ∧ mret (some .int) (sp_rmk1 t s p F z Y R kz) [.inr (.inr (some t)), .inl s, .inl p] S (some (.inl (0 : Int32))) (sI (sI S 1551 t (0 : Int32)) 1551 t (1 : Int32)) (0 + 2) (0 + 12)))))))))))
    refine ⟨trivial, (hp 0).1, rfl, F, z, Y, R, kz, hp.th 0, Nat.le_of_eq (Nat.zero_add _), Nat.le_of_eq (Nat.zero_add _), fun v S3 h => ?_, fun h e => ⟨trivial, (hp 0).1, rfl, trivial, ⟨_, rfl, Or.inr (⟨h, rfl, (hp.ex0 1 rfl).w hp⟩)⟩, Nat.le_of_eq (Nat.zero_add _), Nat.le_of_eq (Nat.zero_add _)⟩⟩
    obtain ⟨i, n, g0, g1, g2, g3, g4, g5⟩ := h
    exact ⟨rfl, trivial, ⟨_, rfl, Or.inl ⟨i, n, g0, g1, g2, g3, g4, g5.ok hp⟩⟩, Nat.le_of_eq (Nat.zero_add _), Nat.le_of_eq (Nat.zero_add _)⟩
  · exact fun _ _ _ _ _ h => by cases h
theorem u_rmk1 (l : Launch) (hlt : l.stackTraces = false) : UsX l yX14_mark (Cond.codeWith yX14_mark cX14_mark 4 (some .int) [(5, 11, 12, 138)]) (some .int) 9 153 15 T_rmk1 := by
  intro Rc Rs av S cs sl K Kx h
  unfold T_rmk1 at h
  split at h
  · rename_i t_o s p
    obtain ⟨t, rfl, h_1⟩ := pa_of h
    obtain ⟨F, z, Y, R, kz, hp, hc, hs, hk⟩ := h_1
    refine ⟨(sp_rmk1 t s p F z Y R kz), c_rmk1 l hlt t s p F z Y R kz, fun _ _ h9 => ⟨_, _, h9.1, (h9.2 0).1⟩, ⟨rfl, hp⟩, hc, hs, fun v9 S' h8 => by
      obtain ⟨v8, h7, h8⟩ := h8
      cases h7
      exact hk _ _ h8, fun _ _ q => q.elim⟩
  · exact h.elim
def T_rac1 : TR := fun Rc Rs av S cs sl K _Kx => match av with
  | [.inr (.inr t_o), .inl p, .inl s] => pa t_o fun t => (∃ (F : Nat → Nat × Nat) (z : Nat → Nat) (Y : Nat → Nat → Nat) (R : Rb) (kz : Nat → Nat), (MD S F t z Y R kz) ∧ cs + (2 + kpC R s.toNatClampNeg) ≤ Rc ∧ sl + (12 + kpZ R s.toNatClampNeg) ≤ Rs ∧ (∀ (v : Int32) (S' : MM), ((∃ n i, n < 4 ∧ p = nI n ∧ i < 8 ∧ s = nI i ∧ v = nI (rsmW R n).length ∧ mdW S S' F t (kpR R i (rsmW R n)) kz 0) ∨ ((np 4 p ∨ np 8 s) ∧ v = 0 ∧ mdW S S' F t R kz 1)) → K (some (.inl v)) S' (cs + (2 + kpC R s.toNatClampNeg)) (sl + (12 + kpZ R s.toNatClampNeg))))
  | _ => False
def sp_rac1 (t : Nat) (p : Int32) (s : Int32) (F : Nat → Nat × Nat) (z : Nat → Nat) (Y : Nat → Nat → Nat) (R : Rb) (kz : Nat → Nat) : Sp := (fun av S => av = [.inr (.inr (some t)), .inl p, .inl s] ∧ (MD S F t z Y R kz), fun _ S => 2 + kpC R s.toNatClampNeg, fun _ S => 12 + kpZ R s.toNatClampNeg, fun _ S rv S' => ∃ v, rv = (some (.inl v)) ∧ ((∃ n i, n < 4 ∧ p = nI n ∧ i < 8 ∧ s = nI i ∧ v = nI (rsmW R n).length ∧ mdW S S' F t (kpR R i (rsmW R n)) kz 0) ∨ ((np 4 p ∨ np 8 s) ∧ v = 0 ∧ mdW S S' F t R kz 1)), fun _ _ _ _ => False)
def tX14_announce : CD := [(0, .aload_n 0), (1, .iconst 0), (2, .putfield 512), (5, .aload_n 0), (6, .iload_n 1), (7, .iload_n 2), (8, .invokevirtual 582), (11, .ireturn), (12, .astore_n 3), (13, .aload_n 0), (14, .iconst 1), (15, .putfield 512), (18, .iconst 0), (19, .ireturn)]
set_option maxRecDepth 100000 in
theorem kX14_announce : chk cX14_announce tX14_announce = true := by decide +kernel
theorem vX14_announce_582 : ∀ w ∈ ([.methodLink RX14 582 yX14_announce0, .instanceMethod yX14_announce0, .selects yX14_announce0.cls yX14_announce0 yX14_announce0, .initialized yX14_announce0.cls, .code yX14_announce0 cX14_announce0 3 (some .int)] : List Cond), w ∈ lw_good := List.forall_mem_cons.mpr ⟨mgd 2238 (by decide +kernel) (by decide +kernel), List.forall_mem_cons.mpr ⟨mgd 2240 (by decide +kernel) (by decide +kernel), List.forall_mem_cons.mpr ⟨mgd 83 (by decide +kernel) (by decide +kernel), List.forall_mem_cons.mpr ⟨mgd 136 (by decide +kernel) (by decide +kernel), List.forall_mem_cons.mpr ⟨mgd 2241 (by decide +kernel) (by decide +kernel), fun _ h => absurd h List.not_mem_nil⟩⟩⟩⟩⟩
set_option maxRecDepth 100000 in
set_option maxHeartbeats 2000000 in
theorem c_rac1 (l : Launch) (hlt : l.stackTraces = false) : ∀ (t : Nat) (p : Int32) (s : Int32) (F : Nat → Nat × Nat) (z : Nat → Nat) (Y : Nat → Nat → Nat) (R : Rb) (kz : Nat → Nat), CtX l yX14_announce (Cond.codeWith yX14_announce cX14_announce 4 (some .int) [(5, 11, 12, 138)]) (some .int) 9 152 (sp_rac1 t p s F z Y R kz) := by
  intro t p s F z Y R kz
  refine CtX.ofH hlt (fX14, nX14, aX14, iX14, lX14, [(582, 0, 3, 1, T_rac0)], qX14, gX14, []) false tX14_announce [((5, 11, 12, 138), 1)] (fun _ _ _ => none) (by decide) (by decide) kX14_announce ⟨_, _, rfl⟩ fX14_ok nX14_ok aX14_ok iX14_ok lX14_ok (fun p e R s m args below meth c Q D cy z r A C hR1 hR2 => List.forall_mem_cons.mpr ⟨cOK_use (fun _ _ _ _ _ _ _ _ h => let ⟨sp, h1, h2, h3⟩ := u_rac0 l hlt _ _ _ _ _ _ _ _ h; ⟨sp, cOKx_V C h1 vX14_announce_582 ⟨by decide, by decide, by decide +kernel⟩ ⟨by rw [hR1]; decide, by rw [hR2]; decide⟩ (k := 15) (T := TX14) (N := 52) rfl (by decide) h2, h3⟩), fun _ h => absurd h List.not_mem_nil⟩) qX14_ok gX14_ok rfl (List.forall_mem_cons.mpr ⟨⟨by decide, mgd 1925 (by decide +kernel) (by decide +kernel)⟩, fun _ h => absurd h List.not_mem_nil⟩) (fun _ _ _ _ z => z) ?_ ?_
  · rintro _ S ⟨rfl, hp⟩
    refine ⟨Nat.le_of_ble_eq_true rfl, 300, ?_⟩
    show (True ∧ (isO S 15 t ∧ (0 = 0 ∧ (∃ (F_1 : Nat → Nat × Nat) (z_2 : Nat → Nat) (Y_3 : Nat → Nat → Nat) (R_4 : Rb) (kz_5 : Nat → Nat), (MD (sI S 1551 t (0 : Int32)) F_1 t z_2 Y_3 R_4 kz_5) ∧ 0 + (2 + kpC R_4 s.toNatClampNeg) ≤ 2 + kpC R s.toNatClampNeg ∧ 0 + (12 + kpZ R_4 s.toNatClampNeg) ≤ 12 + kpZ R s.toNatClampNeg ∧ ((∀ (x_7 : Int32) (S_6 : MM), (∃ n i, n < 4 ∧ p = nI n ∧ i < 8 ∧ s = nI i ∧ x_7 = nI (rsmW R_4 n).length ∧ mdQ (sI S 1551 t (0 : Int32)) S_6 F_1 t (kpR R_4 i (rsmW R_4 n)) kz_5) → (([] : List MV) = [] ∧ mret (some .int) (sp_rac1 t p s F z Y R kz) [.inr (.inr (some t)), .inl p, .inl s] S (some (.inl x_7)) S_6 (0 + (2 + kpC R_4 s.toNatClampNeg)) (0 + (12 + kpZ R_4 s.toNatClampNeg)))) ∧ ((np 4 p ∨ np 8 s) → (∀ e_9, (True ∧ (isO (sI S 1551 t (0 : Int32)) 15 t ∧ (([] : List MV) = [] ∧ mret (some .int) (sp_rac1 t p s F z Y R kz) [.inr (.inr (some t)), .inl p, .inl s] S (some (.inl (0 : Int32))) (sI (sI S 1551 t (0 : Int32)) 1551 t (1 : Int32)) (0 + (2 + kpC R_4 s.toNatClampNeg)) (0 + (12 + kpZ R_4 s.toNatClampNeg))))))))))))
    refine ⟨trivial, (hp 0).1, rfl, F, z, Y, R, kz, hp.th 0, Nat.le_of_eq (Nat.zero_add _), Nat.le_of_eq (Nat.zero_add _), fun v S3 h => ?_, fun h e => ⟨trivial, (hp 0).1, rfl, trivial, ⟨_, rfl, Or.inr (⟨h, rfl, (hp.ex0 1 rfl).w hp⟩)⟩, Nat.le_of_eq (Nat.zero_add _), Nat.le_of_eq (Nat.zero_add _)⟩⟩
    obtain ⟨n, i, g0, g1, g2, g3, g4, g5⟩ := h
    exact ⟨rfl, trivial, ⟨_, rfl, Or.inl ⟨n, i, g0, g1, g2, g3, g4, g5.ok hp⟩⟩, Nat.le_of_eq (Nat.zero_add _), Nat.le_of_eq (Nat.zero_add _)⟩
  · exact fun _ _ _ _ _ h => by cases h
theorem u_rac1 (l : Launch) (hlt : l.stackTraces = false) : UsX l yX14_announce (Cond.codeWith yX14_announce cX14_announce 4 (some .int) [(5, 11, 12, 138)]) (some .int) 9 152 15 T_rac1 := by
  intro Rc Rs av S cs sl K Kx h
  unfold T_rac1 at h
  split at h
  · rename_i t_o p s
    obtain ⟨t, rfl, h_1⟩ := pa_of h
    obtain ⟨F, z, Y, R, kz, hp, hc, hs, hk⟩ := h_1
    refine ⟨(sp_rac1 t p s F z Y R kz), c_rac1 l hlt t p s F z Y R kz, fun _ _ h9 => ⟨_, _, h9.1, (h9.2 0).1⟩, ⟨rfl, hp⟩, hc, hs, fun v9 S' h8 => by
      obtain ⟨v8, h7, h8⟩ := h8
      cases h7
      exact hk _ _ h8, fun _ _ q => q.elim⟩
  · exact h.elim
def T_rsd1 : TR := fun Rc Rs av S cs sl K _Kx => match av with
  | [.inr (.inr t_o), .inl p, .inl to, .inl s] => pa t_o fun t => (∃ (F : Nat → Nat × Nat) (z : Nat → Nat) (Y : Nat → Nat → Nat) (R : Rb) (kz : Nat → Nat), (MD S F t z Y R kz ∧ AbC R) ∧ cs + (3 + kpC R s.toNatClampNeg) ≤ Rc ∧ sl + (18 + kpZ R s.toNatClampNeg) ≤ Rs ∧ (∀ (v : Int32) (S' : MM), ((∃ n o i, n < 4 ∧ p = nI n ∧ (∀ q, o = some q → q < 4) ∧ to = stI o ∧ i < 8 ∧ s = nI i ∧ (rmB (wpF R n o) n 5).length + 4 ≤ 32768 ∧ v = nI (rmA (wpF R n o) n).length ∧ mdW S S' F t (kpR R i (rmA (wpF R n o) n)) kz 0) ∨ ((np 4 p ∨ (to ≠ -1 ∧ np 4 to) ∨ np 8 s) ∧ v = 0 ∧ mdW S S' F t R kz 1) ∨ ((∃ n o i, n < 4 ∧ p = nI n ∧ (∀ q, o = some q → q < 4) ∧ to = stI o ∧ i < 8 ∧ s = nI i ∧ 32768 < (rmB (wpF R n o) n 5).length + 4 ∧ mdW S S' F t R kz 2) ∧ v = 0)) → K (some (.inl v)) S' (cs + (3 + kpC R s.toNatClampNeg)) (sl + (18 + kpZ R s.toNatClampNeg))))
  | _ => False
def sp_rsd1 (t : Nat) (p : Int32) (to : Int32) (s : Int32) (F : Nat → Nat × Nat) (z : Nat → Nat) (Y : Nat → Nat → Nat) (R : Rb) (kz : Nat → Nat) : Sp := (fun av S => av = [.inr (.inr (some t)), .inl p, .inl to, .inl s] ∧ (MD S F t z Y R kz ∧ AbC R), fun _ S => 3 + kpC R s.toNatClampNeg, fun _ S => 18 + kpZ R s.toNatClampNeg, fun _ S rv S' => ∃ v, rv = (some (.inl v)) ∧ ((∃ n o i, n < 4 ∧ p = nI n ∧ (∀ q, o = some q → q < 4) ∧ to = stI o ∧ i < 8 ∧ s = nI i ∧ (rmB (wpF R n o) n 5).length + 4 ≤ 32768 ∧ v = nI (rmA (wpF R n o) n).length ∧ mdW S S' F t (kpR R i (rmA (wpF R n o) n)) kz 0) ∨ ((np 4 p ∨ (to ≠ -1 ∧ np 4 to) ∨ np 8 s) ∧ v = 0 ∧ mdW S S' F t R kz 1) ∨ ((∃ n o i, n < 4 ∧ p = nI n ∧ (∀ q, o = some q → q < 4) ∧ to = stI o ∧ i < 8 ∧ s = nI i ∧ 32768 < (rmB (wpF R n o) n 5).length + 4 ∧ mdW S S' F t R kz 2) ∧ v = 0)), fun _ _ _ _ => False)
def tX14_send : CD := [(0, .aload_n 0), (1, .iconst 0), (2, .putfield 512), (5, .aload_n 0), (6, .iload_n 1), (7, .iload_n 2), (8, .iload_n 3), (9, .invokevirtual 585), (12, .ireturn), (13, .astore 4), (15, .aload_n 0), (16, .iconst 1), (17, .putfield 512), (20, .goto 10), (23, .astore 4), (25, .aload_n 0), (26, .iconst 2), (27, .putfield 512), (30, .iconst 0), (31, .ireturn)]
set_option maxRecDepth 100000 in
theorem kX14_send : chk cX14_send tX14_send = true := by decide +kernel
theorem vX14_send_585 : ∀ w ∈ ([.methodLink RX14 585 yX14_send0, .instanceMethod yX14_send0, .selects yX14_send0.cls yX14_send0 yX14_send0, .initialized yX14_send0.cls, .code yX14_send0 cX14_send0 5 (some .int)] : List Cond), w ∈ lw_good := List.forall_mem_cons.mpr ⟨mgd 2277 (by decide +kernel) (by decide +kernel), List.forall_mem_cons.mpr ⟨mgd 2279 (by decide +kernel) (by decide +kernel), List.forall_mem_cons.mpr ⟨mgd 88 (by decide +kernel) (by decide +kernel), List.forall_mem_cons.mpr ⟨mgd 136 (by decide +kernel) (by decide +kernel), List.forall_mem_cons.mpr ⟨mgd 2280 (by decide +kernel) (by decide +kernel), fun _ h => absurd h List.not_mem_nil⟩⟩⟩⟩⟩
set_option maxRecDepth 100000 in
set_option maxHeartbeats 2000000 in
theorem c_rsd1 (l : Launch) (hlt : l.stackTraces = false) : ∀ (t : Nat) (p : Int32) (to : Int32) (s : Int32) (F : Nat → Nat × Nat) (z : Nat → Nat) (Y : Nat → Nat → Nat) (R : Rb) (kz : Nat → Nat), CtX l yX14_send (Cond.codeWith yX14_send cX14_send 5 (some .int) [(5, 12, 13, 138), (5, 12, 23, 156)]) (some .int) 9 154 (sp_rsd1 t p to s F z Y R kz) := by
  intro t p to s F z Y R kz
  refine CtX.ofH hlt (fX14, nX14, aX14, iX14, lX14, [(585, 0, 4, 1, T_rsd0)], qX14, gX14, []) false tX14_send [((5, 12, 13, 138), 1), ((5, 12, 23, 156), 0)] (fun _ _ _ => none) (by decide) (by decide) kX14_send ⟨_, _, rfl⟩ fX14_ok nX14_ok aX14_ok iX14_ok lX14_ok (fun p e R s m args below meth c Q D cy z r A C hR1 hR2 => List.forall_mem_cons.mpr ⟨cOK_use (fun _ _ _ _ _ _ _ _ h => let ⟨sp, h1, h2, h3⟩ := u_rsd0 l hlt _ _ _ _ _ _ _ _ h; ⟨sp, cOKx_V C h1 vX14_send_585 ⟨by decide, by decide, by decide +kernel⟩ ⟨by rw [hR1]; decide, by rw [hR2]; decide⟩ (k := 15) (T := TX14) (N := 52) rfl (by decide) h2, h3⟩), fun _ h => absurd h List.not_mem_nil⟩) qX14_ok gX14_ok rfl (List.forall_mem_cons.mpr ⟨⟨by decide, mgd 1925 (by decide +kernel) (by decide +kernel)⟩, List.forall_mem_cons.mpr ⟨⟨by decide, mgd 1915 (by decide +kernel) (by decide +kernel)⟩, fun _ h => absurd h List.not_mem_nil⟩⟩) (fun _ _ _ _ z => z) ?_ ?_
  · rintro _ S ⟨rfl, hp⟩
    refine ⟨Nat.le_of_ble_eq_true rfl, 300, ?_⟩
    show (True ∧ (isO S 15 t ∧ (0 = 0 ∧ (∃ (F_1 : Nat → Nat × Nat) (z_2 : Nat → Nat) (Y_3 : Nat → Nat → Nat) (R_4 : Rb) (kz_5 : Nat → Nat), (MD (sI S 1551 t (0 : Int32)) F_1 t z_2 Y_3 R_4 kz_5 ∧ AbC R_4) ∧ 0 + (3 + kpC R_4 s.toNatClampNeg) ≤ 3 + kpC R s.toNatClampNeg ∧ 0 + (18 + kpZ R_4 s.toNatClampNeg) ≤ 18 + kpZ R s.toNatClampNeg ∧ ((∀ (x_7 : Int32) (S_6 : MM), (∃ n o i, n < 4 ∧ p = nI n ∧ (∀ q, o = some q → q < 4) ∧ to = stI o ∧ i < 8 ∧ s = nI i ∧ (rmB (wpF R_4 n o) n 5).length + 4 ≤ 32768 ∧ x_7 = nI (rmA (wpF R_4 n o) n).length ∧ mdQ (sI S 1551 t (0 : Int32)) S_6 F_1 t (kpR R_4 i (rmA (wpF R_4 n o) n)) kz_5) → (([] : List MV) = [] ∧ mret (some .int) (sp_rsd1 t p to s F z Y R kz) [.inr (.inr (some t)), .inl p, .inl to, .inl s] S (some (.inl x_7)) S_6 (0 + (3 + kpC R_4 s.toNatClampNeg)) (0 + (18 + kpZ R_4 s.toNatClampNeg)))) ∧ ((np 4 p ∨ (to ≠ -1 ∧ np 4 to) ∨ np 8 s) → (∀ e_9, (True ∧ (isO (sI S 1551 t (0 : Int32)) 15 t ∧ (([] : List MV) = [] ∧ mret (some .int) (sp_rsd1 t p to s F z Y R kz) [.inr (.inr (some t)), .inl p, .inl to, .inl s] S (some (.inl (0 : Int32))) (sI (sI S 1551 t (0 : Int32)) 1551 t (1 : Int32)) (0 + (3 + kpC R_4 s.toNatClampNeg)) (0 + (18 + kpZ R_4 s.toNatClampNeg))))))) ∧ (∀ (S_10 : MM), (∃ n o i, n < 4 ∧ p = nI n ∧ (∀ q, o = some q → q < 4) ∧ to = stI o ∧ i < 8 ∧ s = nI i ∧ 32768 < (rmB (wpF R_4 n o) n 5).length + 4 ∧ mdQ (sI S 1551 t (0 : Int32)) S_10 F_1 t R_4 kz_5) → (∀ e_11, (True ∧ (isO S_10 15 t ∧ (([] : List MV) = [] ∧ mret (some .int) (sp_rsd1 t p to s F z Y R kz) [.inr (.inr (some t)), .inl p, .inl to, .inl s] S (some (.inl (0 : Int32))) (sI S_10 1551 t (2 : Int32)) (0 + (3 + kpC R_4 s.toNatClampNeg)) (0 + (18 + kpZ R_4 s.toNatClampNeg))))))))))))
    obtain ⟨hp, hA⟩ := hp
    refine ⟨trivial, (hp 0).1, rfl, F, z, Y, R, kz, ⟨hp.th 0, hA⟩, Nat.le_of_eq (Nat.zero_add _), Nat.le_of_eq (Nat.zero_add _), fun v S3 h => ?_, fun h e => ⟨trivial, (hp 0).1, rfl, trivial, ⟨_, rfl, Or.inr (Or.inl ⟨h, rfl, (hp.ex0 1 rfl).w hp⟩)⟩, Nat.le_of_eq (Nat.zero_add _), Nat.le_of_eq (Nat.zero_add _)⟩, fun S9 h e => ?_⟩
    · obtain ⟨n, o, i, g0, g1, g2, g3, g4, g5, g6, g7, g8⟩ := h
      exact ⟨rfl, trivial, ⟨_, rfl, Or.inl ⟨n, o, i, g0, g1, g2, g3, g4, g5, g6, g7, g8.ok hp⟩⟩, Nat.le_of_eq (Nat.zero_add _), Nat.le_of_eq (Nat.zero_add _)⟩
    · obtain ⟨n, o, i, g0, g1, g2, g3, g4, g5, g6, g7⟩ := h
      obtain ⟨F9, z9, Y9, M9, -⟩ := id g7
      exact ⟨trivial, (M9 0).1, rfl, trivial, ⟨_, rfl, Or.inr (Or.inr (⟨⟨n, o, i, g0, g1, g2, g3, g4, g5, g6, g7.ex hp 2 rfl⟩, rfl⟩))⟩, Nat.le_of_eq (Nat.zero_add _), Nat.le_of_eq (Nat.zero_add _)⟩
  · exact fun _ _ _ _ _ h => by cases h
theorem u_rsd1 (l : Launch) (hlt : l.stackTraces = false) : UsX l yX14_send (Cond.codeWith yX14_send cX14_send 5 (some .int) [(5, 12, 13, 138), (5, 12, 23, 156)]) (some .int) 9 154 15 T_rsd1 := by
  intro Rc Rs av S cs sl K Kx h
  unfold T_rsd1 at h
  split at h
  · rename_i t_o p to s
    obtain ⟨t, rfl, h_1⟩ := pa_of h
    obtain ⟨F, z, Y, R, kz, hp, hc, hs, hk⟩ := h_1
    refine ⟨(sp_rsd1 t p to s F z Y R kz), c_rsd1 l hlt t p to s F z Y R kz, fun _ _ h9 => ⟨_, _, h9.1, (h9.2.1 0).1⟩, ⟨rfl, hp⟩, hc, hs, fun v9 S' h8 => by
      obtain ⟨v8, h7, h8⟩ := h8
      cases h7
      exact hk _ _ h8, fun _ _ q => q.elim⟩
  · exact h.elim
