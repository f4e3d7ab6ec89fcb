/-! ===== The reference: judge, read ===== -/
theorem fitB (v : Int8) : fits .byte (.int v.toInt32) = true := by
  show (decide (-128 ≤ v.toInt32) && decide (v.toInt32 ≤ 127)) = true
  have h1 := Int8.le_toInt v
  have h2 := Int8.toInt_lt v
  rw [Bool.and_eq_true, decide_eq_true_iff, decide_eq_true_iff, Int32.le_iff_toInt_le, Int32.le_iff_toInt_le, Int8.toInt_toInt32]
  exact ⟨h1, by show v.toInt ≤ 127; omega⟩
theorem fitN {c : Nat} (h : c < 128) : fits .byte (.int (nI c)) = true := by
  show (decide (-128 ≤ nI c) && decide (nI c ≤ 127)) = true
  rw [Bool.and_eq_true, decide_eq_true_iff, decide_eq_true_iff]
  exact ⟨Int32.le_trans (by decide : (-128 : Int32) ≤ 0) (nI_pos' (by omega)), (nI_leI (b := 127) (by omega) (by decide)).2 (by omega)⟩
theorem byt_eq {a : Int32} {b c : Nat} (hf : fits .byte (.int a) = true) (hb : a &&& 255 = nI b) (hb2 : b < 256) (hc : c < 128) : a = nI c ↔ b = c := by
  have e : nI c &&& 255 = nI c := (pk_andN (by omega) 8 (by decide)).trans (by rw [Nat.mod_eq_of_lt (by omega)])
  constructor
  · intro h
    rw [h, e] at hb
    exact ((nI_eq (by omega) (by omega)).1 hb).symm
  · intro h
    exact byte_inj hf (fitN hc) (by rw [hb, e, h])
theorem b8_u0 (w : Int32) : b8 (ush w 0) = b8 w := by
  have h := b8_s00 w
  unfold b8 at h ⊢
  rw [Int32.toBitVec_shiftRight, show ((0 : Int32).toBitVec.smod 32) = 0#32 from by decide] at h
  have h2 := ss8 w.toBitVec 0 (by decide)
  exact h2.symm.trans h
theorem byt_c {a c : Int32} {b k : Nat} (hf : fits .byte (.int a) = true) (hb : a &&& 255 = nI b) (hk : k < 4) : a = (c >>> ((8 : Int32) * nI k &&& 31)).toInt8.toInt32 ↔ nI b = ush c (8 * nI k) &&& 255 := by
  have e1 : b8 (c >>> ((8 : Int32) * nI k &&& 31)) = b8 (ush c (8 * nI k)) := by
    rcases (show k = 0 ∨ k = 1 ∨ k = 2 ∨ k = 3 by omega) with w | w | w | w <;> subst w
    · rw [show (8 : Int32) * nI 0 &&& 31 = 0 from by decide, b8_s00]
      show b8 c = b8 (ush c (8 * nI 0))
      rw [show (8 : Int32) * nI 0 = 0 from by decide]
      exact (b8_u0 c).symm
    · rw [show (8 : Int32) * nI 1 &&& 31 = 8 from by decide, show (8 : Int32) * nI 1 = 8 from by decide]; exact b8_s08 c
    · rw [show (8 : Int32) * nI 2 &&& 31 = 16 from by decide, show (8 : Int32) * nI 2 = 16 from by decide]; exact b8_s16 c
    · rw [show (8 : Int32) * nI 3 &&& 31 = 24 from by decide, show (8 : Int32) * nI 3 = 24 from by decide]; exact b8_s24 c
  have e2 : (c >>> ((8 : Int32) * nI k &&& 31)).toInt8.toInt32 &&& 255 = ush c (8 * nI k) &&& 255 := by rw [bp_b, b8_and, b8_and, e1]
  constructor
  · intro h; rw [← hb, h, e2]
  · intro h; exact byte_inj hf (fitB _) (by rw [hb, h, e2])
def JE : List Nat := [38, 39, 31, 19, 17, 46, 45, 44, 43, 42, 41, 40, 47, 48, 24, 15, 23]
/-- what a message does to a reference's peer: what it is then, the rows' sizes, the fault, how many events came -/
def rdX (R : Rb) (n : Nat) (B : List Nat) (kz : Nat → Nat) (R' : Rb) (kz' : Nat → Nat) (f c : Nat) : Prop := (¬ framed B ∧ f = 1 ∧ R' = R ∧ kz' = kz ∧ c = 0) ∨ (framed B ∧ bAt B 1 = 2 ∧ f = lrF B ∧ R' = jsR R n B ∧ kz' = kz ∧ c = 0) ∨ (framed B ∧ bAt B 1 ≠ 2 ∧ ∃ G' T', jpX B kz (R.Q.G n) (R.Q.T n) G' T' kz' f ∧ R' = R.sG n G' T' ∧ c = G'.n - (R.Q.G n).n ∧ (R.Q.G n).n ≤ G'.n ∧ GT G' T')
def jgQ (S S' : MM) (F : Nat → Nat × Nat) (t : Nat) (z : Nat → Nat) (Y : Nat → Nat → Nat) (R : Rb) (kz : Nat → Nat) (n : Nat) (B : List Nat) (v : Int32) : Prop := ∃ f c F' z' Y' R' kz', v = nI f ∧ f < 8 ∧ rdX R n B kz R' kz' f c ∧ c ≤ 8192 ∧ MD S' F' t z' Y' R' kz' ∧ rH n JE JF S S' F F' t z z' ∧ (∀ q, Y' q 0 = Y q 0) ∧ mI S' 1537 t = nI c
def jgP (S : MM) (F : Nat → Nat × Nat) (t : Nat) (z : Nat → Nat) (Y : Nat → Nat → Nat) (R : Rb) (kz : Nat → Nat) (n r : Nat) (B : List Nat) (aC aZ bC bZ kC kZ : Nat) : Prop := MD S F t z Y R kz ∧ n < 4 ∧ GT (R.Q.G n) (R.Q.T n) ∧ mR S 1534 t = some r ∧ byN S r B ∧ mN S r ≤ 100000 ∧ r ≠ z 19 ∧ (∀ j, fits .byte (.int (eI S r j)) = true) ∧ mI S 1537 t = 0 ∧ kz 40 ≤ 16384 ∧ (framed B → bAt B 1 ≠ 2 → jpB B (R.Q.G n) (R.Q.T n) kz aC aZ bC bZ kC kZ)
theorem bA_n {B : List Nat} {j : Nat} (hj : j < 2147483648) : bAt B (nI j) = nI (B.getD j 0) := by
  unfold bAt
  rw [if_neg (nI_pos hj), nI_clamp hj]
/-- the frame, without the checksum -/
def frm3 (B : List Nat) : Prop := 7 ≤ B.length ∧ B.getD 0 0 = 87 ∧ B.getD 2 0 < 4 ∧ (B.getD 1 0 = 1 ∨ B.getD 1 0 = 2)
def frmK (B : List Nat) (k : Nat) : Prop := nI (B.getD (B.length - 4 + k) 0) = ush (crcN B (B.length - 4) ^^^ -1) (8 * nI k) &&& 255
theorem frm_iff {B : List Nat} (hB : ∀ b ∈ B, b < 256) (hl : B.length ≤ 32768) : framed B ↔ frm3 B ∧ ∀ k, k < 4 → frmK B k := by
  have g := fun j => getD_lt hB j
  have a0 : bAt B 0 = nI (B.getD 0 0) := bA_n (j := 0) (by decide)
  have a1 : bAt B 1 = nI (B.getD 1 0) := bA_n (j := 1) (by decide)
  have a2 : bAt B 2 = nI (B.getD 2 0) := bA_n (j := 2) (by decide)
  have q0 : nI (B.getD 0 0) = 87 ↔ B.getD 0 0 = 87 := nI_eq (b := 87) (by have := g 0; omega) (by decide)
  have q1 : nI (B.getD 1 0) = 1 ↔ B.getD 1 0 = 1 := nI_eq (b := 1) (by have := g 1; omega) (by decide)
  have q2 : nI (B.getD 1 0) = 2 ↔ B.getD 1 0 = 2 := nI_eq (b := 2) (by have := g 1; omega) (by decide)
  have q3 : nI (B.getD 2 0) < 4 ↔ B.getD 2 0 < 4 := nI_ltI (b := 4) (by have := g 2; omega) (by decide)
  have q4 : ∀ k, k < 4 → (bAt B (nI (B.length - 4 + k)) = ush (crcN B (B.length - 4) ^^^ -1) (8 * nI k) &&& 255 ↔ frmK B k) := fun k hk => by rw [bA_n (by omega)]; exact Iff.rfl
  unfold framed frm3
  rw [a0, a1, a2, q0, q1, q2, q3]
  exact ⟨fun h => ⟨⟨h.1, h.2.1, h.2.2.1, h.2.2.2.1⟩, fun k hk => (q4 k hk).1 (h.2.2.2.2 k hk)⟩, fun h => ⟨h.1.1, h.1.2.1, h.1.2.2.1, h.1.2.2.2, fun k hk => (q4 k hk).2 (h.2 k hk)⟩⟩
def I_jg1 (t n s : Nat) (B : List Nat) (S : MM) (k : Nat) : KT := fun lo st S1 cs sl => k = 20 ∧ frm3 B ∧ lo = [(0, .inr (.inr (some t))), (1, .inl (nI n)), (2, .inl (nI s))] ∧ st = [] ∧ S = S1 ∧ cs = 0 ∧ sl = 0
def I_jg2 (t n s : Nat) (B : List Nat) (S : MM) (k : Nat) : KT := fun lo st S1 cs sl => ∃ j, k = 10 + (4 - j) ∧ j ≤ 4 ∧ frm3 B ∧ (∀ i, i < j → frmK B i) ∧ lo = [(0, .inr (.inr (some t))), (1, .inl (nI n)), (2, .inl (nI s)), (3, .inl (crcN B (B.length - 4) ^^^ -1)), (4, .inl (nI j))] ∧ st = [] ∧ S = S1 ∧ cs = 0 ∧ sl = 0
def I_jg3 (t n s : Nat) (B : List Nat) (S : MM) (k : Nat) : KT := fun lo st S1 cs sl => k = 5 ∧ framed B ∧ lo = [(0, .inr (.inr (some t))), (1, .inl (nI n)), (2, .inl (nI s))] ∧ st = [] ∧ S = S1 ∧ cs = 0 ∧ sl = 0
def T_rjg : TR := fun Rc Rs av S cs sl K _Kx => match av with
  | [.inr (.inr t_o), .inl n_v, .inl s_v] => pa t_o fun t => (∃ (n : Nat), n_v = nI n ∧ (∃ (s : Nat), s_v = nI s ∧ (∃ (F : Nat → Nat × Nat) (z : Nat → Nat) (Y : Nat → Nat → Nat) (R : Rb) (kz : Nat → Nat) (r : Nat) (B : List Nat) (aC aZ bC bZ kC kZ : Nat), (jgP S F t z Y R kz n r B aC aZ bC bZ kC kZ ∧ s = B.length) ∧ cs + (aC + bC + kC) ≤ Rc ∧ sl + (aZ + bZ + kZ) ≤ Rs ∧ (∀ (v : Int32) (S' : MM), (jgQ S S' F t z Y R kz n B v) → K (some (.inl v)) S' (cs + (aC + bC + kC)) (sl + (aZ + bZ + kZ))))))
  | _ => False
def sp_rjg (t : Nat) (n : Nat) (s : Nat) (F : Nat → Nat × Nat) (z : Nat → Nat) (Y : Nat → Nat → Nat) (R : Rb) (kz : Nat → Nat) (r : Nat) (B : List Nat) (aC aZ bC bZ kC kZ : Nat) : Sp := (fun av S => av = [.inr (.inr (some t)), .inl (nI n), .inl (nI s)] ∧ (jgP S F t z Y R kz n r B aC aZ bC bZ kC kZ ∧ s = B.length), fun _ S => aC + bC + kC, fun _ S => aZ + bZ + kZ, fun _ S rv S' => ∃ v, rv = (some (.inl v)) ∧ (jgQ S S' F t z Y R kz n B v), fun _ _ _ _ => False)
theorem rjg_1 {t n s : Nat} {F : Nat → Nat × Nat} {z : Nat → Nat} {Y : Nat → Nat → Nat} {R : Rb} {kz : Nat → Nat} {r : Nat} {B : List Nat} {aC aZ bC bZ kC kZ : Nat} {S : MM} (h : jgP S F t z Y R kz n r B aC aZ bC bZ kC kZ) (hf : ¬ framed B) : ([] : List MV) = [] ∧ mret (some .int) (sp_rjg t n s F z Y R kz r B aC aZ bC bZ kC kZ) [.inr (.inr (some t)), .inl (nI n), .inl (nI s)] S (some (.inl (1 : Int32))) S 0 0 := ⟨rfl, trivial, ⟨1, rfl, 1, 0, F, z, Y, R, kz, rfl, by decide, Or.inl ⟨hf, rfl, rfl, rfl, rfl⟩, by decide, h.1, rH.rf, fun _ => rfl, h.2.2.2.2.2.2.2.2.1⟩, Nat.zero_le _, Nat.zero_le _⟩
def tX14_judge : CD := [(0, .iload_n 2), (1, .bipush 7), (3, .if_icmp .lt 48), (6, .aload_n 0), (7, .getfield 406), (10, .iconst 0), (11, .baload), (12, .bipush 87), (14, .if_icmp .ne 37), (17, .aload_n 0), (18, .getfield 406), (21, .iconst 1), (22, .baload), (23, .iconst 1), (24, .if_icmp .eq 13), (27, .aload_n 0), (28, .getfield 406), (31, .iconst 1), (32, .baload), (33, .iconst 2), (34, .if_icmp .ne 17), (37, .aload_n 0), (38, .getfield 406), (41, .iconst 2), (42, .baload), (43, .iconst 0), (44, .iconst 3), (45, .invokestatic 144), (48, .ifCond .ne 5), (51, .iconst 1), (52, .ireturn), (53, .aload_n 0), (54, .getfield 406), (57, .iload_n 2), (58, .iconst 4), (59, .isub), (60, .invokestatic 319), (63, .istore_n 3), (64, .iconst 0), (65, .istore 4), (67, .iload 4), (69, .iconst 4), (70, .if_icmp .ge 33), (73, .aload_n 0), (74, .getfield 406), (77, .iload_n 2), (78, .iconst 4), (79, .isub), (80, .iload 4), (82, .iadd), (83, .baload), (84, .iload_n 3), (85, .bipush 8), (87, .iload 4), (89, .imul), (90, .ishr), (91, .i2b), (92, .if_icmp .eq 5), (95, .iconst 1), (96, .ireturn), (97, .iinc 4 1), (100, .goto (-33)), (103, .aload_n 0), (104, .iconst 3), (105, .putfield 398), (108, .aload_n 0), (109, .iload_n 2), (110, .iconst 4), (111, .isub), (112, .putfield 401), (115, .aload_n 0), (116, .getfield 406), (119, .iconst 1), (120, .baload), (121, .iconst 2), (122, .if_icmp .ne 11), (125, .aload_n 0), (126, .iload_n 1), (127, .invokevirtual 425), (130, .goto 8), (133, .aload_n 0), (134, .iload_n 1), (135, .invokevirtual 428), (138, .ireturn)]
set_option maxRecDepth 100000 in
theorem kX14_judge : chk cX14_judge tX14_judge = true := by decide +kernel
theorem vX14_judge_144 : ∀ w ∈ ([.methodLink RX14 144 yX14_in, .static yX14_in, .initialized yX14_in.cls, .code yX14_in cX14_in 3 (some .boolean)] : List Cond), w ∈ lw_good := List.forall_mem_cons.mpr ⟨mgd 1930 (by decide +kernel) (by decide +kernel), List.forall_mem_cons.mpr ⟨mgd 1931 (by decide +kernel) (by decide +kernel), List.forall_mem_cons.mpr ⟨mgd 136 (by decide +kernel) (by decide +kernel), List.forall_mem_cons.mpr ⟨mgd 1932 (by decide +kernel) (by decide +kernel), fun _ h => absurd h List.not_mem_nil⟩⟩⟩⟩
theorem vX14_judge_319 : ∀ w ∈ ([.methodLink RX14 319 yX14_checksum, .static yX14_checksum, .initialized yX14_checksum.cls, .code yX14_checksum cX14_checksum 5 (some .int)] : List Cond), w ∈ lw_good := List.forall_mem_cons.mpr ⟨mgd 2265 (by decide +kernel) (by decide +kernel), List.forall_mem_cons.mpr ⟨mgd 2266 (by decide +kernel) (by decide +kernel), List.forall_mem_cons.mpr ⟨mgd 136 (by decide +kernel) (by decide +kernel), List.forall_mem_cons.mpr ⟨mgd 2267 (by decide +kernel) (by decide +kernel), fun _ h => absurd h List.not_mem_nil⟩⟩⟩⟩
theorem vX14_judge_425 : ∀ w ∈ ([.methodLink RX14 425 yX14_judgeSummary, .instanceMethod yX14_judgeSummary, .selects yX14_judgeSummary.cls yX14_judgeSummary yX14_judgeSummary, .initialized yX14_judgeSummary.cls, .code yX14_judgeSummary cX14_judgeSummary 12 (some .int)] : List Cond), w ∈ lw_good := List.forall_mem_cons.mpr ⟨mgd 2342 (by decide +kernel) (by decide +kernel), List.forall_mem_cons.mpr ⟨mgd 2344 (by decide +kernel) (by decide +kernel), List.forall_mem_cons.mpr ⟨mgd 99 (by decide +kernel) (by decide +kernel), List.forall_mem_cons.mpr ⟨mgd 136 (by decide +kernel) (by decide +kernel), List.forall_mem_cons.mpr ⟨mgd 2345 (by decide +kernel) (by decide +kernel), fun _ h => absurd h List.not_mem_nil⟩⟩⟩⟩⟩
theorem vX14_judge_428 : ∀ w ∈ ([.methodLink RX14 428 yX14_judgePatch, .instanceMethod yX14_judgePatch, .selects yX14_judgePatch.cls yX14_judgePatch yX14_judgePatch, .initialized yX14_judgePatch.cls, .code yX14_judgePatch cX14_judgePatch 5 (some .int)] : List Cond), w ∈ lw_good := List.forall_mem_cons.mpr ⟨mgd 2353 (by decide +kernel) (by decide +kernel), List.forall_mem_cons.mpr ⟨mgd 2355 (by decide +kernel) (by decide +kernel), List.forall_mem_cons.mpr ⟨mgd 101 (by decide +kernel) (by decide +kernel), List.forall_mem_cons.mpr ⟨mgd 136 (by decide +kernel) (by decide +kernel), List.forall_mem_cons.mpr ⟨mgd 2356 (by decide +kernel) (by decide +kernel), fun _ h => absurd h List.not_mem_nil⟩⟩⟩⟩⟩
set_option maxRecDepth 100000 in
set_option maxHeartbeats 2000000 in
theorem c_rjg (l : Launch) : ∀ (t : Nat) (n : Nat) (s : Nat) (F : Nat → Nat × Nat) (z : Nat → Nat) (Y : Nat → Nat → Nat) (R : Rb) (kz : Nat → Nat) (r : Nat) (B : List Nat) (aC aZ bC bZ kC kZ : Nat), Ct l yX14_judge cX14_judge 5 (some .int) 7 190 (sp_rjg t n s F z Y R kz r B aC aZ bC bZ kC kZ) := by
  intro t n s F z Y R kz r B aC aZ bC bZ kC kZ
  refine Ct.of (fX14, nX14, aX14, iX14, lX14, [(144, 2, 3, 1, T_rin), (319, 2, 2, 1, T_rcs), (425, 0, 2, 1, T_rjs), (428, 0, 2, 1, T_rjp)], qX14, gX14, []) false tX14_judge (fun _ S => look [(53, ([0,1,2], I_jg1 t n s B S)), (67, ([0,1,2,3,4], I_jg2 t n s B S)), (103, ([0,1,2], I_jg3 t n s B S))]) (by decide) (by decide) kX14_judge ⟨_, _, rfl⟩ fX14_ok nX14_ok aX14_ok iX14_ok lX14_ok (fun p e R s m args below meth c Q D cy z r A C hR1 hR2 => List.forall_mem_cons.mpr ⟨cOK_use (fun _ _ _ _ _ _ _ _ h => let ⟨sp, h1, _, h3⟩ := u_rin l _ _ _ _ _ _ _ _ h; ⟨sp, cOK_S C h1 vX14_judge_144 ⟨by decide, by decide, by decide +kernel⟩ ⟨by rw [hR1]; decide, by rw [hR2]; decide⟩, h3⟩), List.forall_mem_cons.mpr ⟨cOK_use (fun _ _ _ _ _ _ _ _ h => let ⟨sp, h1, _, h3⟩ := u_rcs l _ _ _ _ _ _ _ _ h; ⟨sp, cOK_S C h1 vX14_judge_319 ⟨by decide, by decide, by decide +kernel⟩ ⟨by rw [hR1]; decide, by rw [hR2]; decide⟩, h3⟩), List.forall_mem_cons.mpr ⟨cOK_use (fun _ _ _ _ _ _ _ _ h => let ⟨sp, h1, h2, h3⟩ := u_rjs l _ _ _ _ _ _ _ _ h; ⟨sp, cOK_V C h1 vX14_judge_425 ⟨by decide, by decide, by decide +kernel⟩ ⟨by rw [hR1]; decide, by rw [hR2]; decide⟩ (k := 15) (T := TX14) (N := 52) rfl (by decide) h2, h3⟩), List.forall_mem_cons.mpr ⟨cOK_use (fun _ _ _ _ _ _ _ _ h => let ⟨sp, h1, h2, h3⟩ := u_rjp l _ _ _ _ _ _ _ _ h; ⟨sp, cOK_V C h1 vX14_judge_428 ⟨by decide, by decide, by decide +kernel⟩ ⟨by rw [hR1]; decide, by rw [hR2]; decide⟩ (k := 15) (T := TX14) (N := 52) rfl (by decide) h2, h3⟩), fun _ h => absurd h List.not_mem_nil⟩⟩⟩⟩) qX14_ok gX14_ok rfl ?_ ?_
  · rintro _ S ⟨rfl, hp⟩
    refine ⟨Nat.le_of_ble_eq_true rfl, 300, ?_⟩
    show (((nI s) < (7 : Int32) → (([] : List MV) = [] ∧ mret (some .int) (sp_rjg t n s F z Y R kz r B aC aZ bC bZ kC kZ) [.inr (.inr (some t)), .inl (nI n), .inl (nI s)] S (some (.inl (1 : Int32))) S 0 0)) ∧ (¬ (nI s) < (7 : Int32) → (isO S 15 t ∧ (pa (mR S 1534 t) fun a_1 => (isO S 16 a_1 ∨ isO S 20 a_1) ∧ inR S a_1 (0 : Int32) ∧ ((¬ (eI S a_1 (0 : Int32).toNatClampNeg) = (87 : Int32) → (([] : List MV) = [] ∧ mret (some .int) (sp_rjg t n s F z Y R kz r B aC aZ bC bZ kC kZ) [.inr (.inr (some t)), .inl (nI n), .inl (nI s)] S (some (.inl (1 : Int32))) S 0 0)) ∧ ((eI S a_1 (0 : Int32).toNatClampNeg) = (87 : Int32) → (isO S 15 t ∧ (pa (mR S 1534 t) fun a_2 => (isO S 16 a_2 ∨ isO S 20 a_2) ∧ inR S a_2 (1 : Int32) ∧ (((eI S a_2 (1 : Int32).toNatClampNeg) = (1 : Int32) → (isO S 15 t ∧ (pa (mR S 1534 t) fun a_3 => (isO S 16 a_3 ∨ isO S 20 a_3) ∧ inR S a_3 (2 : Int32) ∧ (2 = 2 ∧ (True ∧ 0 ≤ aC + bC + kC ∧ 0 ≤ aZ + bZ + kZ ∧ (((¬ (tf ((0 : Int32) ≤ (eI S a_3 (2 : Int32).toNatClampNeg) ∧ (eI S a_3 (2 : Int32).toNatClampNeg) ≤ (3 : Int32))) = 0 → (∃ k1, I_jg1 t n s B S k1 [(0, .inr (.inr (some t))), (1, .inl (nI n)), (2, .inl (nI s))] [] S 0 0)) ∧ ((tf ((0 : Int32) ≤ (eI S a_3 (2 : Int32).toNatClampNeg) ∧ (eI S a_3 (2 : Int32).toNatClampNeg) ≤ (3 : Int32))) = 0 → (([] : List MV) = [] ∧ mret (some .int) (sp_rjg t n s F z Y R kz r B aC aZ bC bZ kC kZ) [.inr (.inr (some t)), .inl (nI n), .inl (nI s)] S (some (.inl (1 : Int32))) S 0 0))))))))) ∧ (¬ (eI S a_2 (1 : Int32).toNatClampNeg) = (1 : Int32) → (isO S 15 t ∧ (pa (mR S 1534 t) fun a_5 => (isO S 16 a_5 ∨ isO S 20 a_5) ∧ inR S a_5 (1 : Int32) ∧ ((¬ (eI S a_5 (1 : Int32).toNatClampNeg) = (2 : Int32) → (([] : List MV) = [] ∧ mret (some .int) (sp_rjg t n s F z Y R kz r B aC aZ bC bZ kC kZ) [.inr (.inr (some t)), .inl (nI n), .inl (nI s)] S (some (.inl (1 : Int32))) S 0 0)) ∧ ((eI S a_5 (1 : Int32).toNatClampNeg) = (2 : Int32) → (isO S 15 t ∧ (pa (mR S 1534 t) fun a_6 => (isO S 16 a_6 ∨ isO S 20 a_6) ∧ inR S a_6 (2 : Int32) ∧ (2 = 2 ∧ (True ∧ 0 ≤ aC + bC + kC ∧ 0 ≤ aZ + bZ + kZ ∧ (((¬ (tf ((0 : Int32) ≤ (eI S a_6 (2 : Int32).toNatClampNeg) ∧ (eI S a_6 (2 : Int32).toNatClampNeg) ≤ (3 : Int32))) = 0 → (∃ k1, I_jg1 t n s B S k1 [(0, .inr (.inr (some t))), (1, .inl (nI n)), (2, .inl (nI s))] [] S 0 0)) ∧ ((tf ((0 : Int32) ≤ (eI S a_6 (2 : Int32).toNatClampNeg) ∧ (eI S a_6 (2 : Int32).toNatClampNeg) ≤ (3 : Int32))) = 0 → (([] : List MV) = [] ∧ mret (some .int) (sp_rjg t n s F z Y R kz r B aC aZ bC bZ kC kZ) [.inr (.inr (some t)), .inl (nI n), .inl (nI s)] S (some (.inl (1 : Int32))) S 0 0))))))))))))))))))))))
    obtain ⟨hP, rfl⟩ := hp
    obtain ⟨hM, hn, hGT, h34, hby, hN, h19, hfi, h37, hk40, hb⟩ := id hP
    have hB8 := hby.2.2.1
    have hbt := hby.2.2.2.1
    have hfr := frm_iff hbt hB8
    have bad : ¬ frm3 B → (([] : List MV) = [] ∧ mret (some .int) (sp_rjg t n B.length F z Y R kz r B aC aZ bC bZ kC kZ) [.inr (.inr (some t)), .inl (nI n), .inl (nI B.length)] S (some (.inl (1 : Int32))) S 0 0) := fun h => rjg_1 hP (fun q => h (hfr.1 q).1)
    have z0 : (0 : Nat) ≤ aC + bC + kC := Nat.zero_le _
    have z0' : (0 : Nat) ≤ aZ + bZ + kZ := Nat.zero_le _
    refine if_lt (b := 7) (by omega) (by decide) (fun w => bad (fun q => by have := q.1; omega)) (fun w => ?_)
    have g := fun j => getD_lt hbt j
    have b0 := byt_eq (c := 87) (hfi 0) (hby.2.2.2.2 0 (by omega)) (g 0) (by decide)
    have b1 := byt_eq (c := 1) (hfi 1) (hby.2.2.2.2 1 (by omega)) (g 1) (by decide)
    have b2 := byt_eq (c := 2) (hfi 1) (hby.2.2.2.2 1 (by omega)) (g 1) (by decide)
    have b3 := fun c (hc : c < 128) => byt_eq (c := c) (hfi 2) (hby.2.2.2.2 2 (by omega)) (g 2) hc
    have i0 : inR S r 0 := inRl (i := 0) (by have := hby.2.1; omega) (by decide)
    have i1 : inR S r 1 := inRl (i := 1) (by have := hby.2.1; omega) (by decide)
    have i2 : inR S r 2 := inRl (i := 2) (by have := hby.2.1; omega) (by decide)
    have ft : ∀ {P : Prop}, (B.getD 1 0 = 1 ∨ B.getD 1 0 = 2) → B.getD 0 0 = 87 → (¬ tf ((0 : Int32) ≤ eI S r (2 : Int32).toNatClampNeg ∧ eI S r (2 : Int32).toNatClampNeg ≤ (3 : Int32)) = 0 → ∃ k1, I_jg1 t n B.length B S k1 [(0, .inr (.inr (some t))), (1, .inl (nI n)), (2, .inl (nI B.length))] [] S 0 0) ∧ (tf ((0 : Int32) ≤ eI S r (2 : Int32).toNatClampNeg ∧ eI S r (2 : Int32).toNatClampNeg ≤ (3 : Int32)) = 0 → (([] : List MV) = [] ∧ mret (some .int) (sp_rjg t n B.length F z Y R kz r B aC aZ bC bZ kC kZ) [.inr (.inr (some t)), .inl (nI n), .inl (nI B.length)] S (some (.inl (1 : Int32))) S 0 0)) := fun {_} h1 h0 => by
      refine ⟨fun q => ⟨20, rfl, ⟨w, h0, ?_, h1⟩, rfl, rfl, rfl, rfl, rfl⟩, fun q => bad (fun h => ?_)⟩
      · have q1 : tf ((0 : Int32) ≤ eI S r 2 ∧ eI S r 2 ≤ nI 3) = 1 := by
          rcases tf_b ((0 : Int32) ≤ eI S r 2 ∧ eI S r 2 ≤ nI 3) with e | e
          · exact absurd e q
          · exact e
        obtain ⟨j, j1, j2⟩ := in_1k (k := 3) (by decide) q1
        rw [(b3 j (by omega)).1 j2]; exact j1
      · have := in_0k (x := eI S r 2) (k := 3) (by decide) q
        exact this (B.getD 2 0) h.2.2.1 ((b3 (B.getD 2 0) (by have := h.2.2.1; omega)).2 rfl)
    refine ⟨(hM 0).1, pa_i h34 ⟨Or.inl hby.1, i0, fun q => bad (fun h => q (b0.2 h.2.1)), fun q => ?_⟩⟩
    have q0 := b0.1 q
    refine ⟨(hM 0).1, pa_i h34 ⟨Or.inl hby.1, i1, fun q1 => ⟨(hM 0).1, pa_i h34 ⟨Or.inl hby.1, i2, rfl, trivial, z0, z0', ft (P := True) (Or.inl (b1.1 q1)) q0⟩⟩, fun q1 => ⟨(hM 0).1, pa_i h34 ⟨Or.inl hby.1, i1, fun q2 => bad (fun h => h.2.2.2.elim (fun e => q1 (b1.2 e)) (fun e => q2 (b2.2 e))), fun q2 => ⟨(hM 0).1, pa_i h34 ⟨Or.inl hby.1, i2, rfl, trivial, z0, z0', ft (P := True) (Or.inr (b2.1 q2)) q0⟩⟩⟩⟩⟩⟩
  · intro av S hpre pc I hI k lo st S1 cs sl h
    obtain ⟨rfl, hp⟩ := hpre
    have hm := look_in hI
    simp only [List.mem_cons, List.not_mem_nil, or_false] at hm
    rcases hm with hm | hm | hm
    · cases hm
      obtain ⟨rfl, h3, rfl, rfl, rfl, rfl, rfl⟩ := h
      refine ⟨300, ?_⟩
      show (isO S 15 t ∧ (2 = 2 ∧ ((pa (mR S 1534 t) fun a_1 => (∃ (n_2 : Nat), (nI s) - (4 : Int32) = nI n_2 ∧ (∃ (B_3 : List Nat), (isO S 16 a_1 ∧ n_2 ≤ mN S a_1 ∧ mN S a_1 ≤ 100000 ∧ ∀ j, j < n_2 → eI S a_1 j &&& 255 = nI (B_3.getD j 0)) ∧ 0 ≤ aC + bC + kC ∧ 0 ≤ aZ + bZ + kZ ∧ ((∃ k1, k1 < 20 ∧ I_jg2 t n s B S k1 [(0, .inr (.inr (some t))), (1, .inl (nI n)), (2, .inl (nI s)), (3, .inl (crB B_3 n_2 ^^^ -1)), (4, .inl (0 : Int32))] [] S 0 0))))))))
      obtain ⟨hP, rfl⟩ := hp
      obtain ⟨hM, hn, hGT, h34, hby, hN, h19, hfi, h37, hk40, hb⟩ := id hP
      have hB8 := hby.2.2.1
      have h7 := h3.1
      have es : nI B.length - 4 = nI (B.length - 4) := pk_sub (b := 4) (by omega)
      refine ⟨(hM 0).1, rfl, pa_i h34 ⟨B.length - 4, es, B, ⟨hby.1, by have := hby.2.1; omega, hN, fun j hj => hby.2.2.2.2 j (by omega)⟩, Nat.zero_le _, Nat.zero_le _, 14, by decide, 0, rfl, Nat.zero_le _, h3, fun i hi => absurd hi (Nat.not_lt_zero i), by rw [crB_N B (by omega) _ (by omega)]; rfl, rfl, rfl, rfl, rfl⟩⟩
    · cases hm
      obtain ⟨j, rfl, hj, h3, hfk, rfl, rfl, rfl, rfl, rfl⟩ := h
      refine ⟨300, ?_⟩
      show (((4 : Int32) ≤ (nI j) → (∃ k1, k1 < 10 + (4 - j) ∧ I_jg3 t n s B S k1 [(0, .inr (.inr (some t))), (1, .inl (nI n)), (2, .inl (nI s))] [] S 0 0)) ∧ (¬ (4 : Int32) ≤ (nI j) → (isO S 15 t ∧ (pa (mR S 1534 t) fun a_1 => (isO S 16 a_1 ∨ isO S 20 a_1) ∧ inR S a_1 (((nI s) - (4 : Int32)) + (nI j)) ∧ (((eI S a_1 (((nI s) - (4 : Int32)) + (nI j)).toNatClampNeg) = (((crcN B (B.length - 4) ^^^ -1) >>> (((8 : Int32) * (nI j)) &&& 31)).toInt8.toInt32) → (∃ k1, k1 < 10 + (4 - j) ∧ I_jg2 t n s B S k1 [(0, .inr (.inr (some t))), (1, .inl (nI n)), (2, .inl (nI s)), (3, .inl (crcN B (B.length - 4) ^^^ -1)), (4, .inl ((nI j) + (1 : Int32)))] [] S 0 0)) ∧ (¬ (eI S a_1 (((nI s) - (4 : Int32)) + (nI j)).toNatClampNeg) = (((crcN B (B.length - 4) ^^^ -1) >>> (((8 : Int32) * (nI j)) &&& 31)).toInt8.toInt32) → (([] : List MV) = [] ∧ mret (some .int) (sp_rjg t n s F z Y R kz r B aC aZ bC bZ kC kZ) [.inr (.inr (some t)), .inl (nI n), .inl (nI s)] S (some (.inl (1 : Int32))) S 0 0)))))))
      obtain ⟨hP, rfl⟩ := hp
      obtain ⟨hM, hn, hGT, h34, hby, hN, h19, hfi, h37, hk40, hb⟩ := id hP
      have hB8 := hby.2.2.1
      have h7 := h3.1
      have hfr := frm_iff hby.2.2.2.1 hB8
      have es : nI B.length - 4 + nI j = nI (B.length - 4 + j) := by rw [show nI B.length - 4 = nI (B.length - 4) from pk_sub (b := 4) (by omega), nI_add]
      refine if_le (a := 4) (by decide) (by omega) (fun w => ⟨5, by omega, rfl, hfr.2 ⟨h3, fun i hi => hfk i (by omega)⟩, rfl, rfl, rfl, rfl, rfl⟩) (fun w => ?_)
      rw [es]
      have cj : (nI (B.length - 4 + j)).toNatClampNeg = B.length - 4 + j := nI_clamp (by omega)
      have bc := byt_c (c := crcN B (B.length - 4) ^^^ -1) (hfi (B.length - 4 + j)) (hby.2.2.2.2 (B.length - 4 + j) (by omega)) w
      rw [cj]
      refine ⟨(hM 0).1, pa_i h34 ⟨Or.inl hby.1, inRl (by have := hby.2.1; omega) (by omega), fun q => ⟨10 + (4 - (j + 1)), by omega, j + 1, rfl, by omega, h3, fun i hi => ?_, by rw [nI_1], rfl, rfl, rfl, rfl⟩, fun q => rjg_1 hP (fun hf => q (bc.2 ((hfr.1 hf).2 j w)))⟩⟩
      by_cases e : i = j
      · rw [e]; exact bc.1 q
      · exact hfk i (by omega)
    · cases hm
      obtain ⟨rfl, hf, rfl, rfl, rfl, rfl, rfl⟩ := h
      refine ⟨300, ?_⟩
      show (True ∧ (isO S 15 t ∧ (True ∧ (isO (sI S 1535 t (3 : Int32)) 15 t ∧ (isO (sI (sI S 1535 t (3 : Int32)) 1536 t ((nI s) - (4 : Int32))) 15 t ∧ (pa (mR (sI (sI S 1535 t (3 : Int32)) 1536 t ((nI s) - (4 : Int32))) 1534 t) fun a_1 => (isO (sI (sI S 1535 t (3 : Int32)) 1536 t ((nI s) - (4 : Int32))) 16 a_1 ∨ isO (sI (sI S 1535 t (3 : Int32)) 1536 t ((nI s) - (4 : Int32))) 20 a_1) ∧ inR (sI (sI S 1535 t (3 : Int32)) 1536 t ((nI s) - (4 : Int32))) a_1 (1 : Int32) ∧ ((¬ (eI (sI (sI S 1535 t (3 : Int32)) 1536 t ((nI s) - (4 : Int32))) a_1 (1 : Int32).toNatClampNeg) = (2 : Int32) → (0 = 0 ∧ (∃ (n_2 : Nat), nI n = nI n_2 ∧ (∃ (F_3 : Nat → Nat × Nat) (z_4 : Nat → Nat) (Y_5 : Nat → Nat → Nat) (R_6 : Rb) (kz_7 : Nat → Nat) (r_8 : Nat) (B_9 : List Nat) (aC_10 aZ_11 bC_12 bZ_13 kC_14 kZ_15 : Nat), (MD (sI (sI S 1535 t (3 : Int32)) 1536 t ((nI s) - (4 : Int32))) F_3 t z_4 Y_5 R_6 kz_7 ∧ n_2 < 4 ∧ GT (R_6.Q.G n_2) (R_6.Q.T n_2) ∧ rdP9 (sI (sI S 1535 t (3 : Int32)) 1536 t ((nI s) - (4 : Int32))) t r_8 B_9 3 (B_9.length - 4) ∧ 7 ≤ B_9.length ∧ r_8 ≠ z_4 19 ∧ (∀ j, fits .byte (.int (eI (sI (sI S 1535 t (3 : Int32)) 1536 t ((nI s) - (4 : Int32))) r_8 j)) = true) ∧ mI (sI (sI S 1535 t (3 : Int32)) 1536 t ((nI s) - (4 : Int32))) 1537 t = 0 ∧ kz_7 40 ≤ 16384 ∧ jpB B_9 (R_6.Q.G n_2) (R_6.Q.T n_2) kz_7 aC_10 aZ_11 bC_12 bZ_13 kC_14 kZ_15) ∧ 0 + (aC_10 + bC_12 + kC_14) ≤ aC + bC + kC ∧ 0 + (aZ_11 + bZ_13 + kZ_15) ≤ aZ + bZ + kZ ∧ (∀ (x_17 : Int32) (S_16 : MM), (jpQ (sI (sI S 1535 t (3 : Int32)) 1536 t ((nI s) - (4 : Int32))) S_16 F_3 t z_4 Y_5 R_6 kz_7 n_2 B_9 x_17) → (([] : List MV) = [] ∧ mret (some .int) (sp_rjg t n s F z Y R kz r B aC aZ bC bZ kC kZ) [.inr (.inr (some t)), .inl (nI n), .inl (nI s)] S (some (.inl x_17)) S_16 (0 + (aC_10 + bC_12 + kC_14)) (0 + (aZ_11 + bZ_13 + kZ_15)))))))) ∧ ((eI (sI (sI S 1535 t (3 : Int32)) 1536 t ((nI s) - (4 : Int32))) a_1 (1 : Int32).toNatClampNeg) = (2 : Int32) → (0 = 0 ∧ (∃ (n_18 : Nat), nI n = nI n_18 ∧ (∃ (F_19 : Nat → Nat × Nat) (z_20 : Nat → Nat) (Y_21 : Nat → Nat → Nat) (R_22 : Rb) (kz_23 : Nat → Nat) (r_24 : Nat) (B_25 : List Nat), (MD (sI (sI S 1535 t (3 : Int32)) 1536 t ((nI s) - (4 : Int32))) F_19 t z_20 Y_21 R_22 kz_23 ∧ n_18 < 4 ∧ rdP9 (sI (sI S 1535 t (3 : Int32)) 1536 t ((nI s) - (4 : Int32))) t r_24 B_25 3 (B_25.length - 4) ∧ 7 ≤ B_25.length ∧ B_25.getD 2 0 < 4 ∧ eI (sI (sI S 1535 t (3 : Int32)) 1536 t ((nI s) - (4 : Int32))) r_24 2 = nI (B_25.getD 2 0)) ∧ 0 ≤ aC + bC + kC ∧ 0 ≤ aZ + bZ + kZ ∧ (∀ (S_26 : MM), (jsQ (sI (sI S 1535 t (3 : Int32)) 1536 t ((nI s) - (4 : Int32))) S_26 F_19 t z_20 Y_21 R_22 kz_23 n_18 B_25) → (([] : List MV) = [] ∧ mret (some .int) (sp_rjg t n s F z Y R kz r B aC aZ bC bZ kC kZ) [.inr (.inr (some t)), .inl (nI n), .inl (nI s)] S (some (.inl (nI (lrF B_25)))) S_26 0 0)))))))))))))
      obtain ⟨hP, rfl⟩ := hp
      obtain ⟨hM, hn, hGT, h34, hby, hN, h19, hfi, h37, hk40, hb⟩ := id hP
      have hB8 := hby.2.2.1
      have hfr := (frm_iff hby.2.2.2.1 hB8).1 hf
      have h7 := hfr.1.1
      have g := fun j => getD_lt hby.2.2.2.1 j
      have es : nI B.length - 4 = nI (B.length - 4) := pk_sub (b := 4) (by omega)
      have b2 := byt_eq (c := 2) (hfi 1) (hby.2.2.2.2 1 (by omega)) (g 1) (by decide)
      have b22 := byt_eq (c := B.getD 2 0) (hfi 2) (hby.2.2.2.2 2 (by omega)) (g 2) (by have := hfr.1.2.2.1; omega)
      have a1 : bAt B 1 = nI (B.getD 1 0) := bA_n (j := 1) (by decide)
      have q2 : bAt B 1 = 2 ↔ B.getD 1 0 = 2 := by rw [a1]; exact nI_eq (b := 2) (by have := g 1; omega) (by decide)
      rw [es]
      have k2 : rK [] [1535, 1536] S (sI (sI S 1535 t 3) 1536 t (nI (B.length - 4))) t z := ((rK.sf 1535 3).mono (fun k hk => by cases hk) (by decide)).tr ((rK.sf 1536 (nI (B.length - 4))).mono (fun k hk => by cases hk) (by decide))
      have er : eI (sI (sI S 1535 t 3) 1536 t (nI (B.length - 4))) r = eI S r := rfl
      have e35 : mI (sI (sI S 1535 t 3) 1536 t (nI (B.length - 4))) 1535 t = nI 3 := by rw [mI_sI, if_neg (fun e => absurd e.1 (by decide)), mI_sI, if_pos ⟨rfl, rfl⟩]; rfl
      have e36 : mI (sI (sI S 1535 t 3) 1536 t (nI (B.length - 4))) 1536 t = nI (B.length - 4) := by rw [mI_sI, if_pos ⟨rfl, rfl⟩]
      have e37 : mI (sI (sI S 1535 t 3) 1536 t (nI (B.length - 4))) 1537 t = 0 := (k2.2.1 _ (by decide)).trans h37
      have o0 : isO (sI (sI S 1535 t 3) 1536 t (nI (B.length - 4))) 15 t := (hM 0).1
      have r34 : mR (sI (sI S 1535 t 3) 1536 t (nI (B.length - 4))) 1534 t = some r := h34
      have i1 : inR (sI (sI S 1535 t 3) 1536 t (nI (B.length - 4))) r 1 := inRl (i := 1) (by have := hby.2.1; show 1 < mN S r; omega) (by decide)
      refine ⟨trivial, (hM 0).1, trivial, (hM 0).1, ?_⟩
      generalize sI (sI S 1535 t 3) 1536 t (nI (B.length - 4)) = S2 at k2 er e35 e36 e37 o0 r34 i1 ⊢
      have M2 := k2.md hM (fun k hk => by cases hk) (by decide)
      have hby2 := k2.by hM hby (fun k hk => by cases hk)
      have hrd : rdP9 S2 t r B 3 (B.length - 4) := ⟨r34, hby2, e35, e36, by omega, by omega⟩
      have e1 : eI S2 r (1 : Int32).toNatClampNeg = eI S r 1 := by rw [er]; rfl
      refine ⟨o0, pa_i r34 ⟨Or.inl hby2.1, i1, ?_⟩⟩
      rw [e1]
      refine ⟨fun q => ⟨rfl, n, rfl, F, z, Y, R, kz, r, B, aC, aZ, bC, bZ, kC, kZ, ⟨M2, hn, hGT, hrd, h7, h19, fun j => by rw [er]; exact hfi j, e37, hk40, hb hf (fun e => q (b2.2 (q2.1 e)))⟩, Nat.le_of_eq (Nat.zero_add _), Nat.le_of_eq (Nat.zero_add _), fun v S16 hq => ?_⟩, fun q => ⟨rfl, n, rfl, F, z, Y, R, kz, r, B, ⟨M2, hn, hrd, h7, hfr.1.2.2.1, by rw [er]; exact b22.2 rfl⟩, Nat.zero_le _, Nat.zero_le _, fun S26 hq => ?_⟩⟩
      · obtain ⟨f, F', z', Y', G', T', kz', rfl, hf8, hX, c1, c2, c3, c4, c5, c6⟩ := hq
        have hn8 : G'.n ≤ 8192 := c4.1.hn
        rw [Nat.zero_add, Nat.zero_add]
        exact ⟨rfl, trivial, ⟨nI f, rfl, f, G'.n - (R.Q.G n).n, F', z', Y', R.sG n G' T', kz', rfl, hf8, Or.inr (Or.inr ⟨hf, fun e => q (b2.2 (q2.1 e)), G', T', hX, rfl, rfl, c5, c4⟩), by omega, c1, ((k2.rg.rh n).mono (fun k hk => by cases hk) (by decide)).tr (c2.mono (by decide) (by decide)), c3, c6⟩, Nat.le_refl _, Nat.le_refl _⟩
      · have f8 : lrF B < 8 := by unfold lrF; split <;> decide
        exact ⟨rfl, trivial, ⟨nI (lrF B), rfl, lrF B, 0, F, z, Y, jsR R n B, kz, rfl, f8, Or.inr (Or.inl ⟨hf, q2.2 (b2.1 q), rfl, rfl, rfl, rfl⟩), by decide, hq.1, ((k2.rg.rh n).mono (fun k hk => by cases hk) (by decide)).tr (hq.2.mono (by decide) (by decide)), fun _ => rfl, (hq.2.2.2.1 _ (by decide)).trans e37⟩, Nat.zero_le _, Nat.zero_le _⟩
theorem u_rjg (l : Launch) : Us l yX14_judge cX14_judge 5 (some .int) 7 190 15 T_rjg := by
  intro Rc Rs av S cs sl K Kx h
  unfold T_rjg at h
  split at h
  · rename_i t_o n_v s_v
    obtain ⟨t, rfl, h_1⟩ := pa_of h
    obtain ⟨n, rfl, h_2⟩ := h_1
    obtain ⟨s, rfl, h_3⟩ := h_2
    obtain ⟨F, z, Y, R, kz, r, B, aC, aZ, bC, bZ, kC, kZ, hp, hc, hs, hk⟩ := h_3
    refine ⟨(sp_rjg t n s F z Y R kz r B aC aZ bC bZ kC kZ), c_rjg l t n s F z Y R kz r B aC aZ bC bZ kC kZ, fun _ _ h9 => ⟨_, _, h9.1, (h9.2.1.1 0).1⟩, ⟨rfl, hp⟩, hc, hs, fun v9 S' h8 => by
      obtain ⟨v8, h7, h8⟩ := h8
      cases h7
      exact hk _ _ h8, fun _ _ q => q.elim⟩
  · exact h.elim
