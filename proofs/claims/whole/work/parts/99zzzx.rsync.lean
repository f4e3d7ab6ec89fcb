/-! ===== The reference: sync0 ===== -/
def mdN9 (S S1 : MM) (F F1 : Nat → Nat × Nat) (t : Nat) : Prop := (∀ b, b ∈ mL S → F1 b = F b) ∧ Keep (fun c => 100 ≤ (F c).1) S S1 ∧ mI S1 1551 t = mI S 1551 t
theorem mdN9.tr {S S1 S2 : MM} {F F1 F2 : Nat → Nat × Nat} {t : Nat} (h : mdN9 S S1 F F1 t) (h2 : mdN9 S1 S2 F1 F2 t) : mdN9 S S2 F F2 t := ⟨fun b hb => (h2.1 b (h.2.1.1 b hb).1).trans (h.1 b hb), Keep.trN h.2.1 h2.2.1 (fun b hb q => by
  have q : 100 ≤ (F1 b).1 := q
  rw [h.1 b hb] at q; exact q), h2.2.2.trans h.2.2⟩
theorem mdN9.q {S S1 S' : MM} {F F1 : Nat → Nat × Nat} {t : Nat} {R' : Rb} {kz : Nat → Nat} (h : mdN9 S S1 F F1 t) (hQ : mdQ S1 S' F1 t R' kz) : mdQ S S' F t R' kz := by
  obtain ⟨F', z', Y', h1, h2⟩ := hQ
  exact ⟨F', z', Y', h1, h.tr h2⟩
theorem mdN9.rq {S S1 S' : MM} {F F1 : Nat → Nat × Nat} {t : Nat} {R : Rb} {kz : Nat → Nat} {n : Nat} {B : List Nat} {φ : Nat → Prop} {c : Nat} (h : mdN9 S S1 F F1 t) (hQ : rdQ S1 S' F1 t R kz n B φ c) : rdQ S S' F t R kz n B φ c := by
  obtain ⟨f, R', kz', h1, h2, h3, h4, h5⟩ := hQ
  exact ⟨f, R', kz', h1, h2, h3, h4, h.q h5⟩
def syR0 (R : Rb) (n m : Nat) : Rb := (jsR R n (rsmW R m)).sQ ((jsR R n (rsmW R m)).Q.sFt 0)
def syM (R : Rb) (m : Nat) : Prop := framed (rsmW R m) ∧ lrF (rsmW R m) = 0
def syW0 (R : Rb) (n m : Nat) : List Nat := rmA (wpF (syR0 R n m) n (some m)) n
def syL (R : Rb) (n m : Nat) : Nat := (rmB (wpF (syR0 R n m) n (some m)) n 5).length + 4
theorem syR0_G (R : Rb) (n m : Nat) : (syR0 R n m).Q.G = R.Q.G := upF_id _ _
theorem syR0_T (R : Rb) (n m : Nat) : (syR0 R n m).Q.T = R.Q.T := upF_id _ _
theorem syR0_C (R : Rb) (n m : Nat) : (syR0 R n m).C = R.C := upF_id _ _
theorem syR0_A {R : Rb} (h : AbC R) (n m : Nat) : AbC (syR0 R n m) := fun p hp => by
  rw [syR0_G, syR0_T, syR0_C]; exact h p hp
theorem rsm_2 (R : Rb) (m : Nat) : bAt (rsmW R m) 1 = 2 := rfl
theorem syL_eq (R : Rb) (n m : Nat) : (syW0 R n m).length = syL R n m := by
  unfold syW0 syL rmA
  rw [List.length_append, List.length_map, List.length_range]
/-- the message is read -/
theorem MD.msg {S : MM} {F : Nat → Nat × Nat} {t : Nat} {z : Nat → Nat} {Y : Nat → Nat → Nat} {R : Rb} {kz : Nat → Nat} (h : MD S F t z Y R kz) {B : List Nat} (hB : Ou S (z 21) (z (70 + 21)) B) (hl : B.length ≤ 32768) : rwP S z (z (70 + 21)) B := by
  obtain ⟨-, -, o3, o4, -, -, o7, o8, o9⟩ := hB
  refine ⟨⟨o3, by rw [o4]; omega, hl, o7, fun j hj => o9 j hj (by omega)⟩, by rw [o4]; decide, fun e => ?_, o8⟩
  have q := (h 1 19 (by decide)).2.1
  rw [← e, (h 10 21 (Or.inl rfl)).2.2.1] at q
  injection q with q _
  exact absurd q (by decide)
def syG (R : Rb) (kz : Nat → Nat) (p q : Int32) (aC aZ bC bZ kC kZ : Nat) : Prop := ∀ n m, n < 4 → p = nI n → m < 4 → q = nI m → syM R m → syL R n m ≤ 32768 → rdB (syR0 R n m) kz m (syW0 R n m) aC aZ bC bZ kC kZ
def syF (S S' : MM) (F : Nat → Nat × Nat) (t : Nat) (R : Rb) (kz : Nat → Nat) (p q : Int32) (φ : Nat → Prop) (c : Nat) : Prop := ∃ n m, n < 4 ∧ p = nI n ∧ m < 4 ∧ q = nI m ∧ rdQ S S' F t R kz n (rsmW R m) φ c
def syE (S S' : MM) (F : Nat → Nat × Nat) (t : Nat) (R : Rb) (kz : Nat → Nat) (p q : Int32) (φ : Nat → Prop) (c : Nat) : Prop := ∃ n m, n < 4 ∧ p = nI n ∧ m < 4 ∧ q = nI m ∧ syM R m ∧ syL R n m ≤ 32768 ∧ rdQ S S' F t (syR0 R n m) kz m (syW0 R n m) φ c
def syT (S S' : MM) (F : Nat → Nat × Nat) (t : Nat) (R : Rb) (kz : Nat → Nat) (p q : Int32) : Prop := ∃ n m, n < 4 ∧ p = nI n ∧ m < 4 ∧ q = nI m ∧ syM R m ∧ 32768 < syL R n m ∧ mdQ S S' F t (syR0 R n m) kz
def syX (S S' : MM) (F : Nat → Nat × Nat) (t : Nat) (R : Rb) (kz : Nat → Nat) (p q : Int32) (φ : Nat → Prop) : Prop := ∃ c, syF S S' F t R kz p q φ c ∨ syE S S' F t R kz p q φ c
def I_rsy1 (t : Nat) (p q : Int32) (F : Nat → Nat × Nat) (R : Rb) (kz : Nat → Nat) (S : MM) (k : Nat) : KT := fun lo st S1 cs sl => ∃ n m F1 z1 Y1, k = 2 ∧ n < 4 ∧ p = nI n ∧ m < 4 ∧ q = nI m ∧ syM R m ∧ MD S1 F1 t z1 Y1 (syR0 R n m) kz ∧ mdN9 S S1 F F1 t ∧ lo = [(0, .inr (.inr (some t))), (1, .inl (nI n)), (2, .inl (nI m))] ∧ st = [] ∧ cs = 3 ∧ sl = 18
def I_rsy2 (t : Nat) (p q : Int32) (F : Nat → Nat × Nat) (R : Rb) (kz : Nat → Nat) (S : MM) (k : Nat) : KT := fun lo st S1 cs sl => ∃ n m F1 z1 Y1, k = 1 ∧ n < 4 ∧ p = nI n ∧ m < 4 ∧ q = nI m ∧ syM R m ∧ MD S1 F1 t z1 Y1 (syR0 R n m) kz ∧ mdN9 S S1 F F1 t ∧ syL R n m ≤ 32768 ∧ Ou S1 (z1 21) (z1 (70 + 21)) (syW0 R n m) ∧ lo = [(0, .inr (.inr (some t))), (1, .inl (nI n)), (2, .inl (nI m))] ∧ st = [] ∧ cs = 4 ∧ sl = 24
def T_rsy0 : TR := fun Rc Rs av S cs sl K Kx => match av with
  | [.inr (.inr t_o), .inl p, .inl q] => pa t_o fun t => (∃ (F : Nat → Nat × Nat) (z : Nat → Nat) (Y : Nat → Nat → Nat) (R : Rb) (kz : Nat → Nat) (aC aZ bC bZ kC kZ : Nat), (MD S F t z Y R kz ∧ AbC R ∧ kz 40 ≤ 16384 ∧ syG R kz p q aC aZ bC bZ kC kZ) ∧ cs + (5 + (aC + bC + kC)) ≤ Rc ∧ sl + (30 + (aZ + bZ + kZ)) ≤ Rs ∧ ((∀ (v : Int32) (S' : MM), (∃ c, v = nI c ∧ syE S S' F t R kz p q (fun f => f = 0) c) → K (some (.inl v)) S' (cs + (5 + (aC + bC + kC))) (sl + (30 + (aZ + bZ + kZ)))) ∧ ((np 4 p ∨ np 4 q) → Kx 1 S (cs + (5 + (aC + bC + kC))) (sl + (30 + (aZ + bZ + kZ)))) ∧ (∀ (S' : MM), (syX S S' F t R kz p q (fun f => 1 ≤ f ∧ f ≤ 4)) → Kx 1 S' (cs + (5 + (aC + bC + kC))) (sl + (30 + (aZ + bZ + kZ)))) ∧ (∀ (S' : MM), (syX S S' F t R kz p q (fun f => f = 5)) → Kx 2 S' (cs + (5 + (aC + bC + kC))) (sl + (30 + (aZ + bZ + kZ)))) ∧ (∀ (S' : MM), (syX S S' F t R kz p q (fun f => f = 6)) → Kx 3 S' (cs + (5 + (aC + bC + kC))) (sl + (30 + (aZ + bZ + kZ)))) ∧ (∀ (S' : MM), (syX S S' F t R kz p q (fun f => f = 7)) → Kx 0 S' (cs + (5 + (aC + bC + kC))) (sl + (30 + (aZ + bZ + kZ)))) ∧ (∀ (S' : MM), (syT S S' F t R kz p q) → Kx 0 S' (cs + (5 + (aC + bC + kC))) (sl + (30 + (aZ + bZ + kZ))))))
  | _ => False
def sp_rsy0 (t : Nat) (p : Int32) (q : Int32) (F : Nat → Nat × Nat) (z : Nat → Nat) (Y : Nat → Nat → Nat) (R : Rb) (kz : Nat → Nat) (aC aZ bC bZ kC kZ : Nat) : Sp := (fun av S => av = [.inr (.inr (some t)), .inl p, .inl q] ∧ (MD S F t z Y R kz ∧ AbC R ∧ kz 40 ≤ 16384 ∧ syG R kz p q aC aZ bC bZ kC kZ), fun _ S => 5 + (aC + bC + kC), fun _ S => 30 + (aZ + bZ + kZ), fun _ S rv S' => ∃ v, rv = (some (.inl v)) ∧ (∃ c, v = nI c ∧ syE S S' F t R kz p q (fun f => f = 0) c), fun _ S E S' => (E = 1 ∧ (np 4 p ∨ np 4 q) ∧ S' = S) ∨ (E = 1 ∧ (syX S S' F t R kz p q (fun f => 1 ≤ f ∧ f ≤ 4))) ∨ (E = 2 ∧ (syX S S' F t R kz p q (fun f => f = 5))) ∨ (E = 3 ∧ (syX S S' F t R kz p q (fun f => f = 6))) ∨ (E = 0 ∧ (syX S S' F t R kz p q (fun f => f = 7))) ∨ (E = 0 ∧ (syT S S' F t R kz p q)))
def tX14_sync0 : CD := [(0, .aload_n 0), (1, .iload_n 1), (2, .invokevirtual 203), (5, .pop), (6, .aload_n 0), (7, .iload_n 2), (8, .invokevirtual 203), (11, .pop), (12, .aload_n 0), (13, .iload_n 2), (14, .invokevirtual 384), (17, .aload_n 0), (18, .iload_n 1), (19, .aload_n 0), (20, .getfield 63), (23, .getfield 316), (26, .aload_n 0), (27, .getfield 63), (30, .getfield 309), (33, .invokevirtual 500), (36, .pop), (37, .aload_n 0), (38, .iload_n 1), (39, .aload_n 0), (40, .getfield 11), (43, .iload_n 1), (44, .aaload), (45, .getfield 390), (48, .iload_n 2), (49, .aaload), (50, .invokevirtual 394), (53, .aload_n 0), (54, .iload_n 2), (55, .aload_n 0), (56, .getfield 63), (59, .getfield 316), (62, .aload_n 0), (63, .getfield 63), (66, .getfield 309), (69, .invokevirtual 500), (72, .ireturn)]
set_option maxRecDepth 100000 in
theorem kX14_sync0 : chk cX14_sync0 tX14_sync0 = true := by decide +kernel
theorem vX14_sync0_203 : ∀ w ∈ ([.methodLink RX14 203 yX14_graph, .instanceMethod yX14_graph, .selects yX14_graph.cls yX14_graph yX14_graph, .initialized yX14_graph.cls, .code yX14_graph cX14_graph 2 (some (.object "WeaveTextModel$Graph"))] : List Cond), w ∈ lw_good := List.forall_mem_cons.mpr ⟨mgd 1946 (by decide +kernel) (by decide +kernel), List.forall_mem_cons.mpr ⟨mgd 1948 (by decide +kernel) (by decide +kernel), List.forall_mem_cons.mpr ⟨mgd 52 (by decide +kernel) (by decide +kernel), List.forall_mem_cons.mpr ⟨mgd 136 (by decide +kernel) (by decide +kernel), List.forall_mem_cons.mpr ⟨mgd 1949 (by decide +kernel) (by decide +kernel), fun _ h => absurd h List.not_mem_nil⟩⟩⟩⟩⟩
theorem vX14_sync0_384 : ∀ w ∈ ([.methodLink RX14 384 yX14_writeSummary, .instanceMethod yX14_writeSummary, .selects yX14_writeSummary.cls yX14_writeSummary yX14_writeSummary, .initialized yX14_writeSummary.cls, .code yX14_writeSummary cX14_writeSummary 4 none] : List Cond), w ∈ lw_good := List.forall_mem_cons.mpr ⟨mgd 2242 (by decide +kernel) (by decide +kernel), List.forall_mem_cons.mpr ⟨mgd 2244 (by decide +kernel) (by decide +kernel), List.forall_mem_cons.mpr ⟨mgd 84 (by decide +kernel) (by decide +kernel), List.forall_mem_cons.mpr ⟨mgd 136 (by decide +kernel) (by decide +kernel), List.forall_mem_cons.mpr ⟨mgd 2245 (by decide +kernel) (by decide +kernel), fun _ h => absurd h List.not_mem_nil⟩⟩⟩⟩⟩
theorem vX14_sync0_500 : ∀ w ∈ ([.methodLink RX14 500 yX14_read, .instanceMethod yX14_read, .selects yX14_read.cls yX14_read yX14_read, .initialized yX14_read.cls, .code yX14_read cX14_read 4 (some .int)] : List Cond), w ∈ lw_good := List.forall_mem_cons.mpr ⟨mgd 2334 (by decide +kernel) (by decide +kernel), List.forall_mem_cons.mpr ⟨mgd 2336 (by decide +kernel) (by decide +kernel), List.forall_mem_cons.mpr ⟨mgd 97 (by decide +kernel) (by decide +kernel), List.forall_mem_cons.mpr ⟨mgd 136 (by decide +kernel) (by decide +kernel), List.forall_mem_cons.mpr ⟨mgd 2337 (by decide +kernel) (by decide +kernel), fun _ h => absurd h List.not_mem_nil⟩⟩⟩⟩⟩
theorem vX14_sync0_394 : ∀ w ∈ ([.methodLink RX14 394 yX14_writePatch, .instanceMethod yX14_writePatch, .selects yX14_writePatch.cls yX14_writePatch yX14_writePatch, .initialized yX14_writePatch.cls, .code yX14_writePatch cX14_writePatch 10 none] : List Cond), w ∈ lw_good := List.forall_mem_cons.mpr ⟨mgd 2281 (by decide +kernel) (by decide +kernel), List.forall_mem_cons.mpr ⟨mgd 2283 (by decide +kernel) (by decide +kernel), List.forall_mem_cons.mpr ⟨mgd 89 (by decide +kernel) (by decide +kernel), List.forall_mem_cons.mpr ⟨mgd 136 (by decide +kernel) (by decide +kernel), List.forall_mem_cons.mpr ⟨mgd 2284 (by decide +kernel) (by decide +kernel), fun _ h => absurd h List.not_mem_nil⟩⟩⟩⟩⟩
set_option maxRecDepth 100000 in
set_option maxHeartbeats 2000000 in
theorem c_rsy0 (l : Launch) (hlt : l.stackTraces = false) : ∀ (t : Nat) (p : Int32) (q : Int32) (F : Nat → Nat × Nat) (z : Nat → Nat) (Y : Nat → Nat → Nat) (R : Rb) (kz : Nat → Nat) (aC aZ bC bZ kC kZ : Nat), CtX l yX14_sync0 (Cond.code yX14_sync0 cX14_sync0 3 (some .int)) (some .int) 9 237 (sp_rsy0 t p q F z Y R kz aC aZ bC bZ kC kZ) := by
  intro t p q F z Y R kz aC aZ bC bZ kC kZ
  refine CtX.of hlt (fX14, nX14, aX14, iX14, lX14, [(203, 0, 2, 3, T_rgr), (384, 0, 2, 0, T_rwsm), (500, 0, 4, 1, T_rrd), (394, 0, 3, 0, T_rwp)], qX14, gX14, []) false tX14_sync0 (fun _ S => look [(37, ([0,1,2], I_rsy1 t p q F R kz S)), (53, ([0,1,2], I_rsy2 t p q F R kz S))]) (by decide) (by decide) kX14_sync0 ⟨_, _, rfl⟩ fX14_ok nX14_ok aX14_ok iX14_ok lX14_ok (fun p e R s m args below meth c Q D cy z r A C hR1 hR2 => List.forall_mem_cons.mpr ⟨cOK_use (fun _ _ _ _ _ _ _ _ h => let ⟨sp, h1, h2, h3⟩ := u_rgr l hlt _ _ _ _ _ _ _ _ h; ⟨sp, cOKx_V C h1 vX14_sync0_203 ⟨by decide, by decide, by decide +kernel⟩ ⟨by rw [hR1]; decide, by rw [hR2]; decide⟩ (k := 15) (T := TX14) (N := 52) rfl (by decide) h2, h3⟩), List.forall_mem_cons.mpr ⟨cOK_use (fun _ _ _ _ _ _ _ _ h => let ⟨sp, h1, h2, h3⟩ := u_rwsm l _ _ _ _ _ _ _ _ h; ⟨sp, cOK_V C h1 vX14_sync0_384 ⟨by decide, by decide, by decide +kernel⟩ ⟨by rw [hR1]; decide, by rw [hR2]; decide⟩ (k := 15) (T := TX14) (N := 52) rfl (by decide) h2, h3⟩), List.forall_mem_cons.mpr ⟨cOK_use (fun _ _ _ _ _ _ _ _ h => let ⟨sp, h1, h2, h3⟩ := u_rrd l hlt _ _ _ _ _ _ _ _ h; ⟨sp, cOKx_V C h1 vX14_sync0_500 ⟨by decide, by decide, by decide +kernel⟩ ⟨by rw [hR1]; decide, by rw [hR2]; decide⟩ (k := 15) (T := TX14) (N := 52) rfl (by decide) h2, h3⟩), List.forall_mem_cons.mpr ⟨cOK_use (fun _ _ _ _ _ _ _ _ h => let ⟨sp, h1, h2, h3⟩ := u_rwp l hlt _ _ _ _ _ _ _ _ h; ⟨sp, cOKx_V C h1 vX14_sync0_394 ⟨by decide, by decide, by decide +kernel⟩ ⟨by rw [hR1]; decide, by rw [hR2]; decide⟩ (k := 15) (T := TX14) (N := 52) rfl (by decide) h2, h3⟩), fun _ h => absurd h List.not_mem_nil⟩⟩⟩⟩) qX14_ok gX14_ok (fun _ h => absurd h List.not_mem_nil) ?_ ?_
  · rintro _ S ⟨rfl, hp⟩
    refine ⟨Nat.le_of_ble_eq_true rfl, 300, ?_⟩
    show (0 = 0 ∧ (∃ (F_1 : Nat → Nat × Nat) (z_2 : Nat → Nat) (Y_3 : Nat → Nat → Nat) (R_4 : Rb) (kz_5 : Nat → Nat), (MD S F_1 t z_2 Y_3 R_4 kz_5) ∧ 0 + 1 ≤ 5 + (aC + bC + kC) ∧ 0 + 6 ≤ 30 + (aZ + bZ + kZ) ∧ ((∀ (x_7 : Option Nat) (S_6 : MM), (S_6 = S ∧ ∃ n, n < 4 ∧ p = nI n ∧ x_7 = some (Y_3 n 0)) → (0 = 0 ∧ (∃ (F_8 : Nat → Nat × Nat) (z_9 : Nat → Nat) (Y_10 : Nat → Nat → Nat) (R_11 : Rb) (kz_12 : Nat → Nat), (MD S_6 F_8 t z_9 Y_10 R_11 kz_12) ∧ 0 + 1 + 1 ≤ 5 + (aC + bC + kC) ∧ 0 + 6 + 6 ≤ 30 + (aZ + bZ + kZ) ∧ ((∀ (x_14 : Option Nat) (S_13 : MM), (S_13 = S_6 ∧ ∃ n, n < 4 ∧ q = nI n ∧ x_14 = some (Y_10 n 0)) → (0 = 0 ∧ (∃ (p_15 : Nat), q = nI p_15 ∧ (∃ (F_16 : Nat → Nat × Nat) (z_17 : Nat → Nat) (Y_18 : Nat → Nat → Nat) (R_19 : Rb) (kz_20 : Nat → Nat), (MD S_13 F_16 t z_17 Y_18 R_19 kz_20 ∧ p_15 < 4) ∧ 0 + 1 + 1 ≤ 5 + (aC + bC + kC) ∧ 0 + 6 + 6 ≤ 30 + (aZ + bZ + kZ) ∧ (∀ (S_21 : MM), (ouQ S_13 S_21 F_16 t z_17 Y_18 R_19 kz_20 21 (rsmB (R_19.Q.G p_15) p_15 256 ++ (List.range 4).map (clB (crB (rsmB (R_19.Q.G p_15) p_15 256) (rsmB (R_19.Q.G p_15) p_15 256).length ^^^ -1)))) → (isO S_21 15 t ∧ (pa (mR S_21 1521 t) fun a_22 => isO S_21 14 a_22 ∧ (isO S_21 15 t ∧ (pa (mR S_21 1521 t) fun a_23 => isO S_21 14 a_23 ∧ (0 = 0 ∧ ((pa (mR S_21 1400 a_22) fun a_24 => (∃ (n_25 : Nat), p = nI n_25 ∧ (∃ (s_26 : Nat), mI S_21 1401 a_23 = nI s_26 ∧ (∃ (F_27 : Nat → Nat × Nat) (z_28 : Nat → Nat) (Y_29 : Nat → Nat → Nat) (R_30 : Rb) (kz_31 : Nat → Nat) (B_32 : List Nat) (aC_33 aZ_34 bC_35 bZ_36 kC_37 kZ_38 : Nat), (MD S_21 F_27 t z_28 Y_29 R_30 kz_31 ∧ n_25 < 4 ∧ GT (R_30.Q.G n_25) (R_30.Q.T n_25) ∧ rwP S_21 z_28 a_24 B_32 ∧ s_26 = B_32.length ∧ kz_31 40 ≤ 16384 ∧ rdB R_30 kz_31 n_25 B_32 aC_33 aZ_34 bC_35 bZ_36 kC_37 kZ_38) ∧ 0 + 1 + 1 + (1 + (aC_33 + bC_35 + kC_37)) ≤ 5 + (aC + bC + kC) ∧ 0 + 6 + 6 + (6 + (aZ_34 + bZ_36 + kZ_38)) ≤ 30 + (aZ + bZ + kZ) ∧ ((∀ (x_40 : Int32) (S_39 : MM), (∃ c, x_40 = nI c ∧ rdQ S_21 S_39 F_27 t R_30 kz_31 n_25 B_32 (fun f => f = 0) c) → (∃ k1, I_rsy1 t p q F R kz S k1 [(0, .inr (.inr (some t))), (1, .inl p), (2, .inl q)] [] S_39 (0 + 1 + 1 + (1 + (aC_33 + bC_35 + kC_37))) (0 + 6 + 6 + (6 + (aZ_34 + bZ_36 + kZ_38))))) ∧ (∀ (S_41 : MM), (∃ c, rdQ S_21 S_41 F_27 t R_30 kz_31 n_25 B_32 (fun f => 1 ≤ f ∧ f ≤ 4) c) → mthr (sp_rsy0 t p q F z Y R kz aC aZ bC bZ kC kZ) [.inr (.inr (some t)), .inl p, .inl q] S 1 S_41 (0 + 1 + 1 + (1 + (aC_33 + bC_35 + kC_37))) (0 + 6 + 6 + (6 + (aZ_34 + bZ_36 + kZ_38)))) ∧ (∀ (S_42 : MM), (∃ c, rdQ S_21 S_42 F_27 t R_30 kz_31 n_25 B_32 (fun f => f = 5) c) → mthr (sp_rsy0 t p q F z Y R kz aC aZ bC bZ kC kZ) [.inr (.inr (some t)), .inl p, .inl q] S 2 S_42 (0 + 1 + 1 + (1 + (aC_33 + bC_35 + kC_37))) (0 + 6 + 6 + (6 + (aZ_34 + bZ_36 + kZ_38)))) ∧ (∀ (S_43 : MM), (∃ c, rdQ S_21 S_43 F_27 t R_30 kz_31 n_25 B_32 (fun f => f = 6) c) → mthr (sp_rsy0 t p q F z Y R kz aC aZ bC bZ kC kZ) [.inr (.inr (some t)), .inl p, .inl q] S 3 S_43 (0 + 1 + 1 + (1 + (aC_33 + bC_35 + kC_37))) (0 + 6 + 6 + (6 + (aZ_34 + bZ_36 + kZ_38)))) ∧ (∀ (S_44 : MM), (∃ c, rdQ S_21 S_44 F_27 t R_30 kz_31 n_25 B_32 (fun f => f = 7) c) → mthr (sp_rsy0 t p q F z Y R kz aC aZ bC bZ kC kZ) [.inr (.inr (some t)), .inl p, .inl q] S 0 S_44 (0 + 1 + 1 + (1 + (aC_33 + bC_35 + kC_37))) (0 + 6 + 6 + (6 + (aZ_34 + bZ_36 + kZ_38)))))))))))))))))))) ∧ ((np 4 q) → mthr (sp_rsy0 t p q F z Y R kz aC aZ bC bZ kC kZ) [.inr (.inr (some t)), .inl p, .inl q] S 1 S_6 (0 + 1 + 1) (0 + 6 + 6)))))) ∧ ((np 4 p) → mthr (sp_rsy0 t p q F z Y R kz aC aZ bC bZ kC kZ) [.inr (.inr (some t)), .inl p, .inl q] S 1 S (0 + 1) (0 + 6)))))
    obtain ⟨hM, hA, hk40, hb⟩ := hp
    have fail : ∀ {a b : Nat}, (np 4 p ∨ np 4 q) → a ≤ 5 → b ≤ 30 → mthr (sp_rsy0 t p q F z Y R kz aC aZ bC bZ kC kZ) [.inr (.inr (some t)), .inl p, .inl q] S 1 S a b := fun h ha hb => ⟨Or.inl ⟨rfl, h, rfl⟩, Nat.le_trans ha (Nat.le_add_right _ _), Nat.le_trans hb (Nat.le_add_right _ _)⟩
    refine ⟨rfl, F, z, Y, R, kz, hM, by omega, by omega, fun v S6 h => ?_, fun h => fail (Or.inl h) (by decide) (by decide)⟩
    obtain ⟨e6, n, hn, hpn, rfl⟩ := h
    subst S6
    refine ⟨rfl, F, z, Y, R, kz, hM, by omega, by omega, fun v S13 h => ?_, fun h => fail (Or.inr h) (by decide) (by decide)⟩
    obtain ⟨e13, m, hm, hqm, rfl⟩ := h
    subst S13
    refine ⟨rfl, m, hqm, F, z, Y, R, kz, ⟨hM, hm⟩, by omega, by omega, fun S21 hQ => ?_⟩
    obtain ⟨q1, q2, q3⟩ := hQ
    obtain ⟨w1, w2⟩ := rsmW_ok R m
    obtain ⟨-, f21, k21⟩ := hM.out (k0 := 21) (Or.inl rfl) q3 q2
    have hf : mdN9 S S21 F F t := ⟨fun _ _ => rfl, k21, f21⟩
    have hw := q1.msg q2 w2
    have r21 := q1 10 21 (Or.inl rfl)
    have mk : ∀ {S' φ c}, rdQ S21 S' F t R kz n (rsmW R m) φ c → syX S S' F t R kz p q φ := fun {S' φ c} h => ⟨c, Or.inl ⟨n, m, hn, hpn, hm, hqm, hf.rq h⟩⟩
    have z1 : 0 + 1 + 1 + (1 + (0 + 0 + 0)) ≤ 5 + (aC + bC + kC) := by omega
    have z2 : 0 + 6 + 6 + (6 + (0 + 0 + 0)) ≤ 30 + (aZ + bZ + kZ) := by omega
    refine ⟨(q1 0).1, pa_i r21.1 ⟨q2.1, (q1 0).1, pa_i r21.1 ⟨q2.1, rfl, pa_i q2.2.1 ⟨n, hpn, _, q2.2.2.2.2.1, F, z, Y, R, kz, rsmW R m, 0, 0, 0, 0, 0, 0, ⟨q1, hn, (hA n hn).1, hw, rfl, hk40, fun _ q => absurd (rsm_2 R m) q⟩, z1, z2, fun v S39 h => ?_, fun S' ⟨c, h⟩ => ⟨Or.inr (Or.inl ⟨rfl, mk h⟩), z1, z2⟩, fun S' ⟨c, h⟩ => ⟨Or.inr (Or.inr (Or.inl ⟨rfl, mk h⟩)), z1, z2⟩, fun S' ⟨c, h⟩ => ⟨Or.inr (Or.inr (Or.inr (Or.inl ⟨rfl, mk h⟩))), z1, z2⟩, fun S' ⟨c, h⟩ => ⟨Or.inr (Or.inr (Or.inr (Or.inr (Or.inl ⟨rfl, mk h⟩)))), z1, z2⟩⟩⟩⟩⟩
    obtain ⟨c, -, f, R', kz', hX, -, e0, -, F1, z1', Y1, M39, hf9⟩ := h
    have e0 : f = 0 := e0
    subst e0
    rcases hX with ⟨-, e, -⟩ | ⟨x1, -, x2, x3, x4, -⟩ | ⟨-, e, -⟩
    · cases e
    · subst x3; subst x4
      rw [hpn, hqm]
      exact ⟨2, n, m, F1, z1', Y1, rfl, hn, rfl, hm, rfl, ⟨x1, x2.symm⟩, M39, hf.tr hf9, rfl, rfl, rfl, rfl⟩
    · exact absurd (rsm_2 R m) e
  · intro av S hpre pc I hI k lo st S1 cs sl h
    obtain ⟨rfl, hp⟩ := hpre
    have hm := look_in hI
    simp only [List.mem_cons, List.not_mem_nil, or_false] at hm
    rcases hm with hm | hm
    · cases hm
      obtain ⟨n, m, F1, z1, Y1, rfl, hn, hpn, hm, hqm, hsy, M1, hf, rfl, rfl, rfl, rfl⟩ := h
      refine ⟨300, ?_⟩
      show (isO S1 15 t ∧ (pa (mR S1 1500 t) fun a_1 => a_1 ∈ mL S1 ∧ ¬ mK S1 a_1 < 21 ∧ mK S1 a_1 < 29 ∧ inR S1 a_1 (nI n) ∧ (pa (eR S1 a_1 (nI n).toNatClampNeg) fun a_2 => isO S1 13 a_2 ∧ (pa (mR S1 1322 a_2) fun a_3 => a_3 ∈ mL S1 ∧ ¬ mK S1 a_3 < 21 ∧ mK S1 a_3 < 29 ∧ inR S1 a_3 (nI m) ∧ (0 = 0 ∧ (∃ (p_4 : Nat), nI n = nI p_4 ∧ (∃ (F_5 : Nat → Nat × Nat) (z_6 : Nat → Nat) (Y_7 : Nat → Nat → Nat) (R_8 : Rb) (kz_9 : Nat → Nat) (o_10 : Option Nat), (MD S1 F_5 t z_6 Y_7 R_8 kz_9 ∧ AbC R_8 ∧ p_4 < 4 ∧ (∀ q, o_10 = some q → q < 4) ∧ (eR S1 a_3 (nI m).toNatClampNeg) = kRo Y_7 p_4 o_10) ∧ 3 + 1 ≤ 5 + (aC + bC + kC) ∧ 18 + 6 ≤ 30 + (aZ + bZ + kZ) ∧ ((∀ (S_11 : MM), (wpQ9 S1 S_11 F_5 t z_6 Y_7 R_8 kz_9 ∧ (rmB (wpF R_8 p_4 o_10) p_4 5).length + 4 ≤ 32768 ∧ Ou S_11 (z_6 21) (z_6 (70 + 21)) (rmA (wpF R_8 p_4 o_10) p_4)) → (∃ k1, k1 < 2 ∧ I_rsy2 t p q F R kz S k1 [(0, .inr (.inr (some t))), (1, .inl (nI n)), (2, .inl (nI m))] [] S_11 (3 + 1) (18 + 6))) ∧ (∀ (S_12 : MM), (wpQ9 S1 S_12 F_5 t z_6 Y_7 R_8 kz_9 ∧ 32768 < (rmB (wpF R_8 p_4 o_10) p_4 5).length + 4) → mthr (sp_rsy0 t p q F z Y R kz aC aZ bC bZ kC kZ) [.inr (.inr (some t)), .inl p, .inl q] S 0 S_12 (3 + 1) (18 + 6))))))))))
      obtain ⟨hM, hA, hk40, hb⟩ := hp
      have r0 := M1 1 0 (by decide)
      have cn : (nI n).toNatClampNeg = n := nI_clamp (by omega)
      have cm : (nI m).toNatClampNeg = m := nI_clamp (by omega)
      have g := (M1 2 n hn).2.1
      have r22 := g.row (k := 22) (by decide) (by decide) (by decide)
      have k22 := (M1 2 n hn).2.2.1 m hm
      have kk : ∀ {S28}, wpQ9 S1 S28 F1 t z1 Y1 (syR0 R n m) kz → mdN9 S S28 F F1 t := fun {S28} h => hf.tr ⟨fun _ _ => rfl, h.2.1.mono (fun b _ q => by
        have q : (F1 b).1 = 100 ∨ (F1 b).1 = 110 := q
        show 100 ≤ (F1 b).1
        rcases q with q | q <;> omega), h.2.2⟩
      refine ⟨(M1 0).1, pa_i r0.1 ⟨r0.2.2.1.1, by rw [r0.2.2.1.2]; decide, by rw [r0.2.2.1.2]; decide, inRn (N := 4) r0.2.2.2 hn (by decide), ?_⟩⟩
      rw [cn]
      refine pa_i (M1 2 n hn).1 ⟨(g 0).1, pa_i r22.1 ⟨r22.2.1.1, by rw [r22.2.1.2]; decide, by rw [r22.2.1.2]; decide, inRn (N := 4) r22.2.2 hm (by decide), rfl, n, rfl, F1, z1, Y1, syR0 R n m, kz, some m, ⟨M1, syR0_A hA n m, hn, fun q e => by cases e; exact hm, ?_⟩, by omega, by omega, fun S28 h => ⟨1, by decide, n, m, F1, z1, Y1, rfl, hn, hpn, hm, hqm, hsy, h.1.1, kk h.1, h.2.1, h.2.2, rfl, rfl, rfl, rfl⟩, fun S29 h => ⟨Or.inr (Or.inr (Or.inr (Or.inr (Or.inr ⟨rfl, n, m, hn, hpn, hm, hqm, hsy, h.2, (kk h.1).q ⟨F1, z1, Y1, h.1.1, fun _ _ => rfl, Keep.rf, rfl⟩⟩)))), by show 4 ≤ 5 + (aC + bC + kC); omega, by show 24 ≤ 30 + (aZ + bZ + kZ); omega⟩⟩⟩
      rw [cm]; exact k22.1
    · cases hm
      obtain ⟨n, m, F1, z1, Y1, rfl, hn, hpn, hm, hqm, hsy, M1, hf, hl, hO, rfl, rfl, rfl, rfl⟩ := h
      refine ⟨300, ?_⟩
      show (isO S1 15 t ∧ (pa (mR S1 1521 t) fun a_1 => isO S1 14 a_1 ∧ (isO S1 15 t ∧ (pa (mR S1 1521 t) fun a_2 => isO S1 14 a_2 ∧ (0 = 0 ∧ ((pa (mR S1 1400 a_1) fun a_3 => (∃ (n_4 : Nat), nI m = nI n_4 ∧ (∃ (s_5 : Nat), mI S1 1401 a_2 = nI s_5 ∧ (∃ (F_6 : Nat → Nat × Nat) (z_7 : Nat → Nat) (Y_8 : Nat → Nat → Nat) (R_9 : Rb) (kz_10 : Nat → Nat) (B_11 : List Nat) (aC_12 aZ_13 bC_14 bZ_15 kC_16 kZ_17 : Nat), (MD S1 F_6 t z_7 Y_8 R_9 kz_10 ∧ n_4 < 4 ∧ GT (R_9.Q.G n_4) (R_9.Q.T n_4) ∧ rwP S1 z_7 a_3 B_11 ∧ s_5 = B_11.length ∧ kz_10 40 ≤ 16384 ∧ rdB R_9 kz_10 n_4 B_11 aC_12 aZ_13 bC_14 bZ_15 kC_16 kZ_17) ∧ 4 + (1 + (aC_12 + bC_14 + kC_16)) ≤ 5 + (aC + bC + kC) ∧ 24 + (6 + (aZ_13 + bZ_15 + kZ_17)) ≤ 30 + (aZ + bZ + kZ) ∧ ((∀ (x_19 : Int32) (S_18 : MM), (∃ c, x_19 = nI c ∧ rdQ S1 S_18 F_6 t R_9 kz_10 n_4 B_11 (fun f => f = 0) c) → (([] : List MV) = [] ∧ mret (some .int) (sp_rsy0 t p q F z Y R kz aC aZ bC bZ kC kZ) [.inr (.inr (some t)), .inl p, .inl q] S (some (.inl x_19)) S_18 (4 + (1 + (aC_12 + bC_14 + kC_16))) (24 + (6 + (aZ_13 + bZ_15 + kZ_17))))) ∧ (∀ (S_20 : MM), (∃ c, rdQ S1 S_20 F_6 t R_9 kz_10 n_4 B_11 (fun f => 1 ≤ f ∧ f ≤ 4) c) → mthr (sp_rsy0 t p q F z Y R kz aC aZ bC bZ kC kZ) [.inr (.inr (some t)), .inl p, .inl q] S 1 S_20 (4 + (1 + (aC_12 + bC_14 + kC_16))) (24 + (6 + (aZ_13 + bZ_15 + kZ_17)))) ∧ (∀ (S_21 : MM), (∃ c, rdQ S1 S_21 F_6 t R_9 kz_10 n_4 B_11 (fun f => f = 5) c) → mthr (sp_rsy0 t p q F z Y R kz aC aZ bC bZ kC kZ) [.inr (.inr (some t)), .inl p, .inl q] S 2 S_21 (4 + (1 + (aC_12 + bC_14 + kC_16))) (24 + (6 + (aZ_13 + bZ_15 + kZ_17)))) ∧ (∀ (S_22 : MM), (∃ c, rdQ S1 S_22 F_6 t R_9 kz_10 n_4 B_11 (fun f => f = 6) c) → mthr (sp_rsy0 t p q F z Y R kz aC aZ bC bZ kC kZ) [.inr (.inr (some t)), .inl p, .inl q] S 3 S_22 (4 + (1 + (aC_12 + bC_14 + kC_16))) (24 + (6 + (aZ_13 + bZ_15 + kZ_17)))) ∧ (∀ (S_23 : MM), (∃ c, rdQ S1 S_23 F_6 t R_9 kz_10 n_4 B_11 (fun f => f = 7) c) → mthr (sp_rsy0 t p q F z Y R kz aC aZ bC bZ kC kZ) [.inr (.inr (some t)), .inl p, .inl q] S 0 S_23 (4 + (1 + (aC_12 + bC_14 + kC_16))) (24 + (6 + (aZ_13 + bZ_15 + kZ_17)))))))))))))))
      obtain ⟨hM, hA, hk40, hb⟩ := hp
      have hw := M1.msg hO (by rw [syL_eq]; exact hl)
      have r21 := M1 10 21 (Or.inl rfl)
      have mk : ∀ {S' φ c}, rdQ S1 S' F1 t (syR0 R n m) kz m (syW0 R n m) φ c → syE S S' F t R kz p q φ c := fun {S' φ c} h => ⟨n, m, hn, hpn, hm, hqm, hsy, hl, hf.rq h⟩
      have q1 : 4 + (1 + (aC + bC + kC)) ≤ 5 + (aC + bC + kC) := by omega
      have q2 : 24 + (6 + (aZ + bZ + kZ)) ≤ 30 + (aZ + bZ + kZ) := by omega
      exact ⟨(M1 0).1, pa_i r21.1 ⟨hO.1, (M1 0).1, pa_i r21.1 ⟨hO.1, rfl, pa_i hO.2.1 ⟨m, rfl, _, hO.2.2.2.2.1, F1, z1, Y1, syR0 R n m, kz, syW0 R n m, aC, aZ, bC, bZ, kC, kZ, ⟨M1, hm, (syR0_A hA n m m hm).1, hw, rfl, hk40, hb n m hn hpn hm hqm hsy hl⟩, q1, q2, fun v S' ⟨c, e, h⟩ => ⟨rfl, trivial, ⟨v, rfl, c, e, mk h⟩, q1, q2⟩, fun S' ⟨c, h⟩ => ⟨Or.inr (Or.inl ⟨rfl, c, Or.inr (mk h)⟩), q1, q2⟩, fun S' ⟨c, h⟩ => ⟨Or.inr (Or.inr (Or.inl ⟨rfl, c, Or.inr (mk h)⟩)), q1, q2⟩, fun S' ⟨c, h⟩ => ⟨Or.inr (Or.inr (Or.inr (Or.inl ⟨rfl, c, Or.inr (mk h)⟩))), q1, q2⟩, fun S' ⟨c, h⟩ => ⟨Or.inr (Or.inr (Or.inr (Or.inr (Or.inl ⟨rfl, c, Or.inr (mk h)⟩)))), q1, q2⟩⟩⟩⟩⟩
theorem u_rsy0 (l : Launch) (hlt : l.stackTraces = false) : UsX l yX14_sync0 (Cond.code yX14_sync0 cX14_sync0 3 (some .int)) (some .int) 9 237 15 T_rsy0 := by
  intro Rc Rs av S cs sl K Kx h
  unfold T_rsy0 at h
  split at h
  · rename_i t_o p q
    obtain ⟨t, rfl, h_1⟩ := pa_of h
    obtain ⟨F, z, Y, R, kz, aC, aZ, bC, bZ, kC, kZ, hp, hc, hs, hk, hx0, hx1, hx2, hx3, hx4, hx5⟩ := h_1
    refine ⟨(sp_rsy0 t p q F z Y R kz aC aZ bC bZ kC kZ), c_rsy0 l hlt t p q F z Y R kz aC aZ bC bZ kC kZ, fun _ _ h9 => ⟨_, _, h9.1, (h9.2.1 0).1⟩, ⟨rfl, hp⟩, hc, hs, fun v9 S' h8 => by
      obtain ⟨v8, h7, h8⟩ := h8
      cases h7
      exact hk _ _ h8, fun _ _ q => by
      rcases q with ⟨rfl, q⟩ | ⟨rfl, q⟩ | ⟨rfl, q⟩ | ⟨rfl, q⟩ | ⟨rfl, q⟩ | ⟨rfl, q⟩
      · obtain ⟨q, rfl⟩ := q
        exact hx0 q
      · exact hx1 _ q
      · exact hx2 _ q
      · exact hx3 _ q
      · exact hx4 _ q
      · exact hx5 _ q⟩
  · exact h.elim
