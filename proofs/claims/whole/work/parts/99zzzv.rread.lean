/-! ===== The reference: read, take0, load0 ===== -/
/-- what is read is set -/
theorem MD.s34 {S : MM} {F : Nat → Nat × Nat} {t : Nat} {z : Nat → Nat} {Y : Nat → Nat → Nat} {R : Rb} {kz : Nat → Nat} (h : MD S F t z Y R kz) (o : Option Nat) : MD (sR S 1534 t o) F t z Y R kz := by
  have hk : Keep (fun c => c = t) S (sR S 1534 t o) := Keep.sR (P := fun c => c = t) Keep.rf rfl
  have n34 : ∀ k, k ∈ mdL → 1500 + k ≠ 1534 := by decide
  have nt : ∀ {x o v}, F x = (o, v) → o ≠ 100 → ¬ x = t := fun {x o v} e ho q => by
    rw [q, (h 0).2] at e
    injection e with e _
    exact ho e.symm
  intro j
  match j with
  | 0 => exact h 0
  | 1 =>
    intro k hk9
    obtain ⟨a1, a2, a3, a4⟩ := h 1 k hk9
    exact ⟨by rw [mR_sR, if_neg (fun e => n34 k hk9 e.1)]; exact a1, a2, a3, a4⟩
  | 2 =>
    intro p hp
    obtain ⟨a1, a2⟩ := h 2 p hp
    exact ⟨a1, a2.keep hk (fun b hb e => by
      have e : b = t := e
      rw [e, (h 0).2] at hb
      have hb : 100 = 101 + p := hb
      omega) (fun _ _ => rfl)⟩
  | 3 => exact h 3
  | 4 => exact h 4
  | 5 => exact h 5
  | 6 => exact h 6
  | 7 => exact h 7
  | 8 => exact h 8
  | 9 => exact h 9
  | 10 =>
    intro k hk9
    obtain ⟨a1, a2, a3, B, a4⟩ := h 10 k hk9
    refine ⟨?_, a2, a3, B, a4.kp hk (nt a2 (by decide)) (nt a3 (by decide))⟩
    rw [mR_sR, if_neg (fun e => by have := e.1; omega)]; exact a1
  | 11 => exact h 11
  | 12 => exact h 12
  | n + 13 => trivial
/-- the fault is set -/
theorem MD.flt {S : MM} {F : Nat → Nat × Nat} {t : Nat} {z : Nat → Nat} {Y : Nat → Nat → Nat} {R : Rb} {kz : Nat → Nat} (h : MD S F t z Y R kz) {f : Nat} (hf : f < 8) : MD (sI S 1513 t (nI f)) F t z Y (R.sQ (R.Q.sFt f)) kz := by
  have q := h.wr1 (S' := sI S 1513 t (nI f)) [] 9 (fun k hk => by cases hk) (fun k _ _ hk => by cases hk) (Keep.sI Keep.rf (Or.inl rfl)) (fun f hf hn => by
    rw [mI_sI, if_neg (fun e => hn (by rw [e.1]; rfl))]) (fun f => rfl)
  intro i
  match i with
  | 9 =>
    obtain ⟨a1, a2, a3, a4⟩ := h 9
    exact ⟨by rw [mI_sI, if_pos ⟨rfl, rfl⟩]; rfl, hf, by rw [mI_sI, if_neg (fun e => absurd e.1 (by decide))]; exact a3, a4⟩
  | 0 => exact q 0 (by decide)
  | 1 => exact q 1 (by decide)
  | 2 => exact q 2 (by decide)
  | 3 => exact q 3 (by decide)
  | 4 => exact q 4 (by decide)
  | 5 => exact q 5 (by decide)
  | 6 => exact q 6 (by decide)
  | 7 => exact q 7 (by decide)
  | 8 => exact q 8 (by decide)
  | 10 => exact q 10 (by decide)
  | 11 => exact q 11 (by decide)
  | 12 => exact q 12 (by decide)
  | n + 13 => trivial
/-- something was altered or loaded -/
theorem MD.fog {S : MM} {F : Nat → Nat × Nat} {t : Nat} {z : Nat → Nat} {Y : Nat → Nat → Nat} {R : Rb} {kz : Nat → Nat} (h : MD S F t z Y R kz) : MD (sI S 1514 t 1) F t z Y (R.sQ (R.Q.sFo 1)) kz := by
  have q := h.wr1 (S' := sI S 1514 t 1) [] 9 (fun k hk => by cases hk) (fun k _ _ hk => by cases hk) (Keep.sI Keep.rf (Or.inl rfl)) (fun f hf hn => by
    rw [mI_sI, if_neg (fun e => hn (by rw [e.1]; rfl))]) (fun f => rfl)
  intro i
  match i with
  | 9 =>
    obtain ⟨a1, a2, a3, a4⟩ := h 9
    exact ⟨by rw [mI_sI, if_neg (fun e => absurd e.1 (by decide))]; exact a1, a2, by rw [mI_sI, if_pos ⟨rfl, rfl⟩]; rfl, (by decide : 1 < 2)⟩
  | 0 => exact q 0 (by decide)
  | 1 => exact q 1 (by decide)
  | 2 => exact q 2 (by decide)
  | 3 => exact q 3 (by decide)
  | 4 => exact q 4 (by decide)
  | 5 => exact q 5 (by decide)
  | 6 => exact q 6 (by decide)
  | 7 => exact q 7 (by decide)
  | 8 => exact q 8 (by decide)
  | 10 => exact q 10 (by decide)
  | 11 => exact q 11 (by decide)
  | 12 => exact q 12 (by decide)
  | n + 13 => trivial
def rdQ (S S' : MM) (F : Nat → Nat × Nat) (t : Nat) (R : Rb) (kz : Nat → Nat) (n : Nat) (B : List Nat) (φ : Nat → Prop) (c : Nat) : Prop := ∃ f R' kz', rdX R n B kz R' kz' f c ∧ f < 8 ∧ φ f ∧ c ≤ 8192 ∧ mdQ S S' F t (R'.sQ (R'.Q.sFt f)) kz'
def rdB (R : Rb) (kz : Nat → Nat) (n : Nat) (B : List Nat) (aC aZ bC bZ kC kZ : Nat) : Prop := framed B → bAt B 1 ≠ 2 → jpB B (R.Q.G n) (R.Q.T n) kz aC aZ bC bZ kC kZ
def rwP (S : MM) (z : Nat → Nat) (r : Nat) (B : List Nat) : Prop := byN S r B ∧ mN S r ≤ 100000 ∧ r ≠ z 19 ∧ ∀ j, fits .byte (.int (eI S r j)) = true
def T_rrd : TR := fun Rc Rs av S cs sl K Kx => match av with
  | [.inr (.inr t_o), .inl n_v, .inr (.inr r_o), .inl s_v] => pa t_o fun t => (pa r_o fun r => (∃ (n : Nat), n_v = nI n ∧ (∃ (s : Nat), s_v = nI s ∧ (∃ (F : Nat → Nat × Nat) (z : Nat → Nat) (Y : Nat → Nat → Nat) (R : Rb) (kz : Nat → Nat) (B : List Nat) (aC aZ bC bZ kC kZ : Nat), (MD S F t z Y R kz ∧ n < 4 ∧ GT (R.Q.G n) (R.Q.T n) ∧ rwP S z r B ∧ s = B.length ∧ kz 40 ≤ 16384 ∧ rdB R kz n B aC aZ bC bZ kC kZ) ∧ cs + (1 + (aC + bC + kC)) ≤ Rc ∧ sl + (6 + (aZ + bZ + kZ)) ≤ Rs ∧ ((∀ (v : Int32) (S' : MM), (∃ c, v = nI c ∧ rdQ S S' F t R kz n B (fun f => f = 0) c) → K (some (.inl v)) S' (cs + (1 + (aC + bC + kC))) (sl + (6 + (aZ + bZ + kZ)))) ∧ (∀ (S' : MM), (∃ c, rdQ S S' F t R kz n B (fun f => 1 ≤ f ∧ f ≤ 4) c) → Kx 1 S' (cs + (1 + (aC + bC + kC))) (sl + (6 + (aZ + bZ + kZ)))) ∧ (∀ (S' : MM), (∃ c, rdQ S S' F t R kz n B (fun f => f = 5) c) → Kx 2 S' (cs + (1 + (aC + bC + kC))) (sl + (6 + (aZ + bZ + kZ)))) ∧ (∀ (S' : MM), (∃ c, rdQ S S' F t R kz n B (fun f => f = 6) c) → Kx 3 S' (cs + (1 + (aC + bC + kC))) (sl + (6 + (aZ + bZ + kZ)))) ∧ (∀ (S' : MM), (∃ c, rdQ S S' F t R kz n B (fun f => f = 7) c) → Kx 0 S' (cs + (1 + (aC + bC + kC))) (sl + (6 + (aZ + bZ + kZ)))))))))
  | _ => False
def sp_rrd (t : Nat) (n : Nat) (r : Nat) (s : Nat) (F : Nat → Nat × Nat) (z : Nat → Nat) (Y : Nat → Nat → Nat) (R : Rb) (kz : Nat → Nat) (B : List Nat) (aC aZ bC bZ kC kZ : Nat) : Sp := (fun av S => av = [.inr (.inr (some t)), .inl (nI n), .inr (.inr (some r)), .inl (nI s)] ∧ (MD S F t z Y R kz ∧ n < 4 ∧ GT (R.Q.G n) (R.Q.T n) ∧ rwP S z r B ∧ s = B.length ∧ kz 40 ≤ 16384 ∧ rdB R kz n B aC aZ bC bZ kC kZ), fun _ S => 1 + (aC + bC + kC), fun _ S => 6 + (aZ + bZ + kZ), fun _ S rv S' => ∃ v, rv = (some (.inl v)) ∧ (∃ c, v = nI c ∧ rdQ S S' F t R kz n B (fun f => f = 0) c), fun _ S E S' => (E = 1 ∧ (∃ c, rdQ S S' F t R kz n B (fun f => 1 ≤ f ∧ f ≤ 4) c)) ∨ (E = 2 ∧ (∃ c, rdQ S S' F t R kz n B (fun f => f = 5) c)) ∨ (E = 3 ∧ (∃ c, rdQ S S' F t R kz n B (fun f => f = 6) c)) ∨ (E = 0 ∧ (∃ c, rdQ S S' F t R kz n B (fun f => f = 7) c)))
def tX14_read : CD := [(0, .aload_n 0), (1, .aload_n 2), (2, .putfield 406), (5, .aload_n 0), (6, .iconst 0), (7, .putfield 413), (10, .aload_n 0), (11, .aload_n 0), (12, .iload_n 1), (13, .iload_n 3), (14, .invokevirtual 416), (17, .putfield 419), (20, .aload_n 0), (21, .getfield 419), (24, .ifCond .le 10), (27, .aload_n 0), (28, .getfield 419), (31, .invokestatic 422), (34, .aload_n 0), (35, .getfield 413), (38, .ireturn)]
set_option maxRecDepth 100000 in
theorem kX14_read : chk cX14_read tX14_read = true := by decide +kernel
theorem vX14_read_416 : ∀ w ∈ ([.methodLink RX14 416 yX14_judge, .instanceMethod yX14_judge, .selects yX14_judge.cls yX14_judge yX14_judge, .initialized yX14_judge.cls, .code yX14_judge cX14_judge 5 (some .int)] : List Cond), w ∈ lw_good := List.forall_mem_cons.mpr ⟨mgd 2338 (by decide +kernel) (by decide +kernel), List.forall_mem_cons.mpr ⟨mgd 2340 (by decide +kernel) (by decide +kernel), List.forall_mem_cons.mpr ⟨mgd 98 (by decide +kernel) (by decide +kernel), List.forall_mem_cons.mpr ⟨mgd 136 (by decide +kernel) (by decide +kernel), List.forall_mem_cons.mpr ⟨mgd 2341 (by decide +kernel) (by decide +kernel), fun _ h => absurd h List.not_mem_nil⟩⟩⟩⟩⟩
theorem vX14_read_422 : ∀ w ∈ ([.methodLink RX14 422 yX14_fail, .static yX14_fail, .initialized yX14_fail.cls, .code yX14_fail cX14_fail 1 none] : List Cond), w ∈ lw_good := List.forall_mem_cons.mpr ⟨mgd 2420 (by decide +kernel) (by decide +kernel), List.forall_mem_cons.mpr ⟨mgd 2421 (by decide +kernel) (by decide +kernel), List.forall_mem_cons.mpr ⟨mgd 136 (by decide +kernel) (by decide +kernel), List.forall_mem_cons.mpr ⟨mgd 2422 (by decide +kernel) (by decide +kernel), fun _ h => absurd h List.not_mem_nil⟩⟩⟩⟩
set_option maxRecDepth 100000 in
set_option maxHeartbeats 2000000 in
theorem c_rrd (l : Launch) (hlt : l.stackTraces = false) : ∀ (t : Nat) (n : Nat) (r : Nat) (s : Nat) (F : Nat → Nat × Nat) (z : Nat → Nat) (Y : Nat → Nat → Nat) (R : Rb) (kz : Nat → Nat) (B : List Nat) (aC aZ bC bZ kC kZ : Nat), CtX l yX14_read (Cond.code yX14_read cX14_read 4 (some .int)) (some .int) 8 214 (sp_rrd t n r s F z Y R kz B aC aZ bC bZ kC kZ) := by
  intro t n r s F z Y R kz B aC aZ bC bZ kC kZ
  refine CtX.of hlt (fX14, nX14, aX14, iX14, lX14, [(416, 0, 3, 1, T_rjg), (422, 2, 1, 0, T_rfal)], qX14, gX14, []) false tX14_read (fun _ _ _ => none) (by decide) (by decide) kX14_read ⟨_, _, rfl⟩ fX14_ok nX14_ok aX14_ok iX14_ok lX14_ok (fun p e R s m args below meth c Q D cy z r A C hR1 hR2 => List.forall_mem_cons.mpr ⟨cOK_use (fun _ _ _ _ _ _ _ _ h => let ⟨sp, h1, h2, h3⟩ := u_rjg l _ _ _ _ _ _ _ _ h; ⟨sp, cOK_V C h1 vX14_read_416 ⟨by decide, by decide, by decide +kernel⟩ ⟨by rw [hR1]; decide, by rw [hR2]; decide⟩ (k := 15) (T := TX14) (N := 52) rfl (by decide) h2, h3⟩), List.forall_mem_cons.mpr ⟨cOK_use (fun _ _ _ _ _ _ _ _ h => let ⟨sp, h1, _, h3⟩ := u_rfal l hlt _ _ _ _ _ _ _ _ h; ⟨sp, cOKx_S C h1 vX14_read_422 ⟨by decide, by decide, by decide +kernel⟩ ⟨by rw [hR1]; decide, by rw [hR2]; decide⟩, h3⟩), fun _ h => absurd h List.not_mem_nil⟩⟩) qX14_ok gX14_ok (fun _ h => absurd h List.not_mem_nil) ?_ ?_
  · rintro _ S ⟨rfl, hp⟩
    refine ⟨Nat.le_of_ble_eq_true rfl, 300, ?_⟩
    show (True ∧ (isO S 15 t ∧ (True ∧ (isO (sR S 1534 t (some r)) 15 t ∧ (0 = 0 ∧ (∃ (n_1 : Nat), nI n = nI n_1 ∧ (∃ (s_2 : Nat), nI s = nI s_2 ∧ (∃ (F_3 : Nat → Nat × Nat) (z_4 : Nat → Nat) (Y_5 : Nat → Nat → Nat) (R_6 : Rb) (kz_7 : Nat → Nat) (r_8 : Nat) (B_9 : List Nat) (aC_10 aZ_11 bC_12 bZ_13 kC_14 kZ_15 : Nat), (jgP (sI (sR S 1534 t (some r)) 1537 t (0 : Int32)) F_3 t z_4 Y_5 R_6 kz_7 n_1 r_8 B_9 aC_10 aZ_11 bC_12 bZ_13 kC_14 kZ_15 ∧ s_2 = B_9.length) ∧ 0 + (aC_10 + bC_12 + kC_14) ≤ 1 + (aC + bC + kC) ∧ 0 + (aZ_11 + bZ_13 + kZ_15) ≤ 6 + (aZ + bZ + kZ) ∧ (∀ (x_17 : Int32) (S_16 : MM), (jgQ (sI (sR S 1534 t (some r)) 1537 t (0 : Int32)) S_16 F_3 t z_4 Y_5 R_6 kz_7 n_1 B_9 x_17) → (True ∧ (isO S_16 15 t ∧ (isO (sI S_16 1513 t x_17) 15 t ∧ (((mI (sI S_16 1513 t x_17) 1513 t) ≤ 0 → (isO (sI S_16 1513 t x_17) 15 t ∧ (([] : List MV) = [] ∧ mret (some .int) (sp_rrd t n r s F z Y R kz B aC aZ bC bZ kC kZ) [.inr (.inr (some t)), .inl (nI n), .inr (.inr (some r)), .inl (nI s)] S (some (.inl (mI (sI S_16 1513 t x_17) 1537 t))) (sI S_16 1513 t x_17) (0 + (aC_10 + bC_12 + kC_14)) (0 + (aZ_11 + bZ_13 + kZ_15))))) ∧ (¬ (mI (sI S_16 1513 t x_17) 1513 t) ≤ 0 → (isO (sI S_16 1513 t x_17) 15 t ∧ (2 = 2 ∧ (∃ (f_18 : Nat), mI (sI S_16 1513 t x_17) 1513 t = nI f_18 ∧ ((f_18 < 8) ∧ 0 + (aC_10 + bC_12 + kC_14) + 1 ≤ 1 + (aC + bC + kC) ∧ 0 + (aZ_11 + bZ_13 + kZ_15) + 6 ≤ 6 + (aZ + bZ + kZ) ∧ ((∀ (S_19 : MM), False → (isO S_19 15 t ∧ (([] : List MV) = [] ∧ mret (some .int) (sp_rrd t n r s F z Y R kz B aC aZ bC bZ kC kZ) [.inr (.inr (some t)), .inl (nI n), .inr (.inr (some r)), .inl (nI s)] S (some (.inl (mI S_19 1537 t))) S_19 (0 + (aC_10 + bC_12 + kC_14) + 1) (0 + (aZ_11 + bZ_13 + kZ_15) + 6)))) ∧ ((f_18 ≤ 4) → mthr (sp_rrd t n r s F z Y R kz B aC aZ bC bZ kC kZ) [.inr (.inr (some t)), .inl (nI n), .inr (.inr (some r)), .inl (nI s)] S 1 (sI S_16 1513 t x_17) (0 + (aC_10 + bC_12 + kC_14) + 1) (0 + (aZ_11 + bZ_13 + kZ_15) + 6)) ∧ ((f_18 = 5) → mthr (sp_rrd t n r s F z Y R kz B aC aZ bC bZ kC kZ) [.inr (.inr (some t)), .inl (nI n), .inr (.inr (some r)), .inl (nI s)] S 2 (sI S_16 1513 t x_17) (0 + (aC_10 + bC_12 + kC_14) + 1) (0 + (aZ_11 + bZ_13 + kZ_15) + 6)) ∧ ((f_18 = 6) → mthr (sp_rrd t n r s F z Y R kz B aC aZ bC bZ kC kZ) [.inr (.inr (some t)), .inl (nI n), .inr (.inr (some r)), .inl (nI s)] S 3 (sI S_16 1513 t x_17) (0 + (aC_10 + bC_12 + kC_14) + 1) (0 + (aZ_11 + bZ_13 + kZ_15) + 6)) ∧ ((f_18 = 7) → mthr (sp_rrd t n r s F z Y R kz B aC aZ bC bZ kC kZ) [.inr (.inr (some t)), .inl (nI n), .inr (.inr (some r)), .inl (nI s)] S 0 (sI S_16 1513 t x_17) (0 + (aC_10 + bC_12 + kC_14) + 1) (0 + (aZ_11 + bZ_13 + kZ_15) + 6)))))))))))))))))))))
    obtain ⟨hM, hn, hGT, ⟨hby, hN, h19, hfi⟩, rfl, hk40, hb⟩ := hp
    have M0 : MD (sR S 1534 t (some r)) F t z Y R kz := hM.s34 (some r)
    have k0 : rK [] [1537] (sR S 1534 t (some r)) (sI (sR S 1534 t (some r)) 1537 t 0) t z := rK.sf 1537 0
    have M1 := k0.md M0 (fun k hk => by cases hk) (by decide)
    have e37 : mI (sI (sR S 1534 t (some r)) 1537 t 0) 1537 t = 0 := by rw [mI_sI, if_pos ⟨rfl, rfl⟩]
    have e34 : mR (sI (sR S 1534 t (some r)) 1537 t 0) 1534 t = some r := by
      show mR (sR S 1534 t (some r)) 1534 t = some r
      rw [mR_sR, if_pos ⟨rfl, rfl⟩]
    have e51 : mI (sI (sR S 1534 t (some r)) 1537 t 0) 1551 t = mI S 1551 t := by rw [mI_sI, if_neg (fun e => absurd e.1 (by decide))]; rfl
    have kS : Keep (fun c => c = t) S (sI (sR S 1534 t (some r)) 1537 t 0) := Keep.sI (P := fun c => c = t) (Keep.sR (P := fun c => c = t) Keep.rf rfl) rfl
    have by1 : byN (sI (sR S 1534 t (some r)) 1537 t 0) r B := hby
    have fi1 : ∀ j, fits .byte (.int (eI (sI (sR S 1534 t (some r)) 1537 t 0) r j)) = true := hfi
    have N1 : mN (sI (sR S 1534 t (some r)) 1537 t 0) r ≤ 100000 := hN
    refine ⟨trivial, (hM 0).1, trivial, (hM 0).1, rfl, n, rfl, B.length, rfl, F, z, Y, R, kz, r, B, aC, aZ, bC, bZ, kC, kZ, ?_⟩
    generalize sI (sR S 1534 t (some r)) 1537 t 0 = S1 at M1 e37 e34 e51 kS by1 fi1 N1 ⊢
    refine ⟨⟨⟨M1, hn, hGT, e34, by1, N1, h19, fi1, e37, hk40, hb⟩, rfl⟩, by omega, by omega, fun v S16 hq => ?_⟩
    obtain ⟨f, c, F', z', Y', R', kz', rfl, hf8, hX, hc8, M16, hH, hY, h37⟩ := hq
    have M17 := M16.flt hf8
    have e13 : mI (sI S16 1513 t (nI f)) 1513 t = nI f := by rw [mI_sI, if_pos ⟨rfl, rfl⟩]
    have e37' : mI (sI S16 1513 t (nI f)) 1537 t = nI c := by rw [mI_sI, if_neg (fun e => absurd e.1 (by decide))]; exact h37
    have hQ : ∀ φ : Nat → Prop, φ f → rdQ S (sI S16 1513 t (nI f)) F t R kz n B φ c := fun φ hφ => by
      refine ⟨f, R', kz', hX, hf8, hφ, hc8, F', z', Y', M17, fun b hb9 => hH.2.1 b (kS.1 b hb9).1, ?_, ?_⟩
      · have k1 : Keep (fun c => 100 ≤ (F c).1) S S1 := kS.mono (fun b _ e => by rw [show b = t from e, (hM 0).2]; exact Nat.le_refl _)
        have k2 := hH.k100 M1 (by decide)
        exact (k1.tr k2).tr (Keep.sI (P := fun c => 100 ≤ (F c).1) Keep.rf (by show 100 ≤ (F t).1; rw [(hM 0).2]; exact Nat.le_refl _))
      · rw [mI_sI, if_neg (fun e => absurd e.1 (by decide))]
        exact (hH.2.2.1 _ (by decide)).trans e51
    rw [e13, e37']
    refine ⟨trivial, (M16 0).1, (M17 0).1, fun w => ?_, fun w => ⟨(M17 0).1, rfl, f, rfl, hf8, by omega, by omega, fun _ q => q.elim, fun q => ?_, fun q => ?_, fun q => ?_, fun q => ?_⟩⟩
    · have f0 : f = 0 := by
        have := (nI_leI (b := 0) (by omega) (by decide)).1 w
        omega
      exact ⟨(M17 0).1, rfl, trivial, ⟨nI c, rfl, c, rfl, hQ _ f0⟩, by show 0 + (aC + bC + kC) ≤ 1 + (aC + bC + kC); omega, by show 0 + (aZ + bZ + kZ) ≤ 6 + (aZ + bZ + kZ); omega⟩
    · have f0 : f ≠ 0 := fun e => w (by rw [e]; exact Int32.le_refl _)
      exact ⟨Or.inl ⟨rfl, c, hQ _ ⟨by omega, q⟩⟩, by show 0 + (aC + bC + kC) + 1 ≤ 1 + (aC + bC + kC); omega, by show 0 + (aZ + bZ + kZ) + 6 ≤ 6 + (aZ + bZ + kZ); omega⟩
    · exact ⟨Or.inr (Or.inl ⟨rfl, c, hQ _ q⟩), by show 0 + (aC + bC + kC) + 1 ≤ 1 + (aC + bC + kC); omega, by show 0 + (aZ + bZ + kZ) + 6 ≤ 6 + (aZ + bZ + kZ); omega⟩
    · exact ⟨Or.inr (Or.inr (Or.inl ⟨rfl, c, hQ _ q⟩)), by show 0 + (aC + bC + kC) + 1 ≤ 1 + (aC + bC + kC); omega, by show 0 + (aZ + bZ + kZ) + 6 ≤ 6 + (aZ + bZ + kZ); omega⟩
    · exact ⟨Or.inr (Or.inr (Or.inr ⟨rfl, c, hQ _ q⟩)), by show 0 + (aC + bC + kC) + 1 ≤ 1 + (aC + bC + kC); omega, by show 0 + (aZ + bZ + kZ) + 6 ≤ 6 + (aZ + bZ + kZ); omega⟩
  · exact fun _ _ _ _ _ h => by cases h
theorem u_rrd (l : Launch) (hlt : l.stackTraces = false) : UsX l yX14_read (Cond.code yX14_read cX14_read 4 (some .int)) (some .int) 8 214 15 T_rrd := by
  intro Rc Rs av S cs sl K Kx h
  unfold T_rrd at h
  split at h
  · rename_i t_o n_v r_o s_v
    obtain ⟨t, rfl, h_1⟩ := pa_of h
    obtain ⟨r, rfl, h_2⟩ := pa_of h_1
    obtain ⟨n, rfl, h_3⟩ := h_2
    obtain ⟨s, rfl, h_4⟩ := h_3
    obtain ⟨F, z, Y, R, kz, B, aC, aZ, bC, bZ, kC, kZ, hp, hc, hs, hk, hx0, hx1, hx2, hx3⟩ := h_4
    refine ⟨(sp_rrd t n r s F z Y R kz B aC aZ bC bZ kC kZ), c_rrd l hlt t n r s F z Y R kz B aC aZ bC bZ kC kZ, fun _ _ h9 => ⟨_, _, h9.1, (h9.2.1 0).1⟩, ⟨rfl, hp⟩, hc, hs, fun v9 S' h8 => by
      obtain ⟨v8, h7, h8⟩ := h8
      cases h7
      exact hk _ _ h8, fun _ _ q => by
      rcases q with ⟨rfl, q⟩ | ⟨rfl, q⟩ | ⟨rfl, q⟩ | ⟨rfl, q⟩
      · exact hx0 _ q
      · exact hx1 _ q
      · exact hx2 _ q
      · exact hx3 _ q⟩
  · exact h.elim
