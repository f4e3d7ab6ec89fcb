/-! ===== Packer.unpack ===== -/
def slc (B : List Nat) (i n : Nat) : List Nat := (List.range n).map (fun t => B.getD (i + t) 0)
theorem slc_len (B : List Nat) (i n : Nat) : (slc B i n).length = n := by unfold slc; rw [List.length_map, List.length_range]
theorem rngV_slc {B : List Nat} {i n : Nat} (h : i + n ≤ 2147483648) : rngV B i n = (slc B i n).map nI := by
  unfold rngV slc
  rw [List.map_map]
  refine List.map_congr_left (fun t ht => ?_)
  rw [List.mem_range] at ht
  exact bAt_nI (by omega)
theorem slc_lt {B : List Nat} (h : ∀ b ∈ B, b < 256) (i n : Nat) : ∀ x ∈ slc B i n, x < 256 := by
  intro x hx
  unfold slc at hx
  rw [List.mem_map] at hx
  obtain ⟨t, -, rfl⟩ := hx
  exact getD_lt h _
theorem bPuts_map {R : List Nat} (h : ∀ x ∈ R, x < 256) (hl : R.length ≤ 32768) : bPuts [] (R.map nI) = R := by
  rw [bPuts_fit (by rw [List.length_map]; simpa using hl), map_b8 h]; rfl
/-- the unpacking's steps: whether all went well, the bytes, the place behind -/
def upkF (B : List Nat) (q tt : Nat) : Nat → List Nat → Nat → Bool × List Nat × Nat
  | 0, R, p => (false, R, p)
  | t + 1, R, p => if tt ≤ R.length then (decide (q ≤ p), R, p) else
    match (vint B q p).1 with
    | none => (false, R, (vint B q p).2)
    | some v => if v / 2 < 1 ∨ tt - R.length < v / 2 then (false, R, (vint B q p).2)
      else if v % 2 = 0 then (if v / 2 ≤ q - (vint B q p).2 then upkF B q tt t (R ++ slc B (vint B q p).2 (v / 2)) ((vint B q p).2 + v / 2) else (false, R, (vint B q p).2))
      else match (vint B q (vint B q p).2).1 with
        | none => (false, R, (vint B q (vint B q p).2).2)
        | some b => if 4 ≤ v / 2 ∧ 1 ≤ b ∧ b ≤ R.length then upkF B q tt t (R ++ repW R b (v / 2)) (vint B q (vint B q p).2).2 else (false, R, (vint B q (vint B q p).2).2)
def upk (B : List Nat) (q p : Nat) : Bool × List Nat × Nat := match (vint B q p).1 with
  | none => (false, [], (vint B q p).2)
  | some tt => if tt ≤ 32768 then upkF B q tt (tt + 1) [] (vint B q p).2 else (false, [], (vint B q p).2)
theorem upkF_len {B : List Nat} {q tt : Nat} : ∀ {t : Nat} {R : List Nat} {p : Nat}, R.length ≤ (upkF B q tt t R p).2.1.length
  | 0, R, p => Nat.le_refl _
  | t + 1, R, p => by
    unfold upkF
    split
    · exact Nat.le_refl _
    · split
      · exact Nat.le_refl _
      · split
        · exact Nat.le_refl _
        · split
          · split
            · exact Nat.le_trans (by rw [List.length_append]; omega) upkF_len
            · exact Nat.le_refl _
          · split
            · exact Nat.le_refl _
            · split
              · exact Nat.le_trans (by rw [List.length_append]; omega) upkF_len
              · exact Nat.le_refl _
def upW (c r d : Nat) : Nat → Prop := fun b => b = r ∨ b = d ∨ b = c
def upP (S S' : MM) (c r d s q : Nat) (U : Bool × List Nat × Nat) : Prop := ∃ d', Apk (upW c r d) (clr S r) S' r d d' [] (U.2.1.map nI) ∧ Cu S' c s U.2.2 q
theorem Cu.mv {S : MM} {c s p q p' : Nat} (h : Cu S c s p q) (hp : p' ≤ q) : Cu (sI S 301 c (nI p')) c s p' q := ⟨h.1, h.2.1, by rw [mI_sI, if_pos ⟨rfl, rfl⟩], by rw [mI_sI, if_neg (fun z => absurd z.1 (by decide))]; exact h.2.2.2.1, hp, h.2.2.2.2.2⟩
theorem shr1_nI {v : Nat} (h : v < 2147483648) : nI v >>> ((1 : Int32) &&& 31) = nI (v / 2) := pk_shrN h _ 1 (by decide)
theorem and1_nI {v : Nat} (h : v < 2147483648) : nI v &&& (1 : Int32) = nI (v % 2) := by
  have := pk_and (nI v) (m := 1) 1 (by decide)
  rw [pk_tn (by omega)] at this
  exact this
def I_upk (u c r d s e p q : Nat) (B : List Nat) (S : MM) (t : Nat) : KT := fun lo st S1 cs sl => ∃ tt R1 p1 d1, tt ≤ 32768 ∧ R1.length ≤ tt ∧ tt + 1 ≤ R1.length + t ∧ upk B q p = upkF B q tt t R1 p1 ∧ p1 ≤ q ∧ (∀ x ∈ R1, x < 256) ∧ lo = [(2, .inl (nI tt)), (0, .inr (.inr (some u))), (1, .inr (.inr (some c)))] ∧ st = [] ∧ Apk (upW c r d) (clr S r) S1 r d d1 [] (R1.map nI) ∧ Cu S1 c s p1 q ∧ cs = addNC R1.length (mN S d) 0 ∧ sl = addNS R1.length (mN S d) 0
def T_pupk : TR := fun Rc Rs av S cs sl K _Kx => match av with
  | [.inr (.inr u_o), .inr (.inr c_o)] => pa u_o fun u => (pa c_o fun c => (∃ (r d s e p q : Nat) (R B : List Nat), (isO S 8 u ∧ mR S 800 u = some r ∧ By S r d R ∧ Cu S c s p q ∧ By S s e B ∧ s ≠ r ∧ e ≠ d) ∧ cs + (addNC (upk B q p).2.1.length (mN S d) 0) ≤ Rc ∧ sl + (addNS (upk B q p).2.1.length (mN S d) 0) ≤ Rs ∧ (∀ (S' : MM), (upP S S' c r d s q (upk B q p)) → K (some (.inl (tf ((upk B q p).1 = true)))) S' (cs + (addNC (upk B q p).2.1.length (mN S d) 0)) (sl + (addNS (upk B q p).2.1.length (mN S d) 0)))))
  | _ => False
def sp_pupk (u : Nat) (c : Nat) (r d s e p q : Nat) (R B : List Nat) : Sp := (fun av S => av = [.inr (.inr (some u)), .inr (.inr (some c))] ∧ (isO S 8 u ∧ mR S 800 u = some r ∧ By S r d R ∧ Cu S c s p q ∧ By S s e B ∧ s ≠ r ∧ e ≠ d), fun _ S => addNC (upk B q p).2.1.length (mN S d) 0, fun _ S => addNS (upk B q p).2.1.length (mN S d) 0, fun _ S rv S' => rv = (some (.inl (tf ((upk B q p).1 = true)))) ∧ (upP S S' c r d s q (upk B q p)), fun _ _ _ _ => False)
def tX7_unpack : CD := [(0, .aload_n 0), (1, .getfield 12), (4, .invokevirtual 32), (7, .aload_n 1), (8, .invokevirtual 82), (11, .istore_n 2), (12, .iload_n 2), (13, .ifCond .lt 9), (16, .iload_n 2), (17, .ldc 48), (19, .if_icmp .le 5), (22, .iconst 0), (23, .ireturn), (24, .aload_n 0), (25, .getfield 12), (28, .getfield 35), (31, .iload_n 2), (32, .if_icmp .ge 76), (35, .aload_n 1), (36, .invokevirtual 82), (39, .istore_n 3), (40, .iload_n 3), (41, .iconst 1), (42, .ishr), (43, .istore 4), (45, .iload 4), (47, .iconst 1), (48, .if_icmp .lt 17), (51, .iload 4), (53, .iload_n 2), (54, .aload_n 0), (55, .getfield 12), (58, .getfield 35), (61, .isub), (62, .if_icmp .le 5), (65, .iconst 0), (66, .ireturn), (67, .iload_n 3), (68, .iconst 1), (69, .iand), (70, .ifCond .ne 16), (73, .aload_n 1), (74, .aload_n 0), (75, .getfield 12), (78, .iload 4), (80, .invokevirtual 88), (83, .goto 13), (86, .aload_n 0), (87, .iload 4), (89, .aload_n 1), (90, .invokevirtual 82), (93, .invokevirtual 92), (96, .istore 5), (98, .iload 5), (100, .ifCond .ne 5), (103, .iconst 0), (104, .ireturn), (105, .goto (-81)), (108, .aload_n 1), (109, .invokevirtual 96), (112, .ireturn)]
set_option maxRecDepth 100000 in
theorem kX7_unpack : chk cX7_unpack tX7_unpack = true := by decide +kernel
theorem vX7_unpack_32 : ∀ w ∈ ([.methodLink RX7 32 yX1_clear, .instanceMethod yX1_clear, .selects yX1_clear.cls yX1_clear yX1_clear, .initialized yX1_clear.cls, .code yX1_clear cX1_clear 1 none] : List Cond), w ∈ lw_good := List.forall_mem_cons.mpr ⟨mgd 1409 (by decide +kernel) (by decide +kernel), List.forall_mem_cons.mpr ⟨mgd 1053 (by decide +kernel) (by decide +kernel), List.forall_mem_cons.mpr ⟨mgd 1054 (by decide +kernel) (by decide +kernel), List.forall_mem_cons.mpr ⟨mgd 122 (by decide +kernel) (by decide +kernel), List.forall_mem_cons.mpr ⟨mgd 1055 (by decide +kernel) (by decide +kernel), fun _ h => absurd h List.not_mem_nil⟩⟩⟩⟩⟩
theorem vX7_unpack_82 : ∀ w ∈ ([.methodLink RX7 82 yX2_varint, .instanceMethod yX2_varint, .selects yX2_varint.cls yX2_varint yX2_varint, .initialized yX2_varint.cls, .code yX2_varint cX2_varint 4 (some .int)] : List Cond), w ∈ lw_good := List.forall_mem_cons.mpr ⟨mgd 1517 (by decide +kernel) (by decide +kernel), List.forall_mem_cons.mpr ⟨mgd 1482 (by decide +kernel) (by decide +kernel), List.forall_mem_cons.mpr ⟨mgd 1483 (by decide +kernel) (by decide +kernel), List.forall_mem_cons.mpr ⟨mgd 131 (by decide +kernel) (by decide +kernel), List.forall_mem_cons.mpr ⟨mgd 1484 (by decide +kernel) (by decide +kernel), fun _ h => absurd h List.not_mem_nil⟩⟩⟩⟩⟩
theorem vX7_unpack_88 : ∀ w ∈ ([.methodLink RX7 88 yX2_copyTo, .instanceMethod yX2_copyTo, .selects yX2_copyTo.cls yX2_copyTo yX2_copyTo, .initialized yX2_copyTo.cls, .code yX2_copyTo cX2_copyTo 3 (some .boolean)] : List Cond), w ∈ lw_good := List.forall_mem_cons.mpr ⟨mgd 1518 (by decide +kernel) (by decide +kernel), List.forall_mem_cons.mpr ⟨mgd 1519 (by decide +kernel) (by decide +kernel), List.forall_mem_cons.mpr ⟨mgd 1520 (by decide +kernel) (by decide +kernel), List.forall_mem_cons.mpr ⟨mgd 131 (by decide +kernel) (by decide +kernel), List.forall_mem_cons.mpr ⟨mgd 1521 (by decide +kernel) (by decide +kernel), fun _ h => absurd h List.not_mem_nil⟩⟩⟩⟩⟩
theorem vX7_unpack_92 : ∀ w ∈ ([.methodLink RX7 92 yX7_repeat, .instanceMethod yX7_repeat, .selects yX7_repeat.cls yX7_repeat yX7_repeat, .initialized yX7_repeat.cls, .code yX7_repeat cX7_repeat 4 (some .boolean)] : List Cond), w ∈ lw_good := List.forall_mem_cons.mpr ⟨mgd 1523 (by decide +kernel) (by decide +kernel), List.forall_mem_cons.mpr ⟨mgd 1525 (by decide +kernel) (by decide +kernel), List.forall_mem_cons.mpr ⟨mgd 40 (by decide +kernel) (by decide +kernel), List.forall_mem_cons.mpr ⟨mgd 132 (by decide +kernel) (by decide +kernel), List.forall_mem_cons.mpr ⟨mgd 1526 (by decide +kernel) (by decide +kernel), fun _ h => absurd h List.not_mem_nil⟩⟩⟩⟩⟩
theorem vX7_unpack_96 : ∀ w ∈ ([.methodLink RX7 96 yX2_isDone, .instanceMethod yX2_isDone, .selects yX2_isDone.cls yX2_isDone yX2_isDone, .initialized yX2_isDone.cls, .code yX2_isDone cX2_isDone 1 (some .boolean)] : List Cond), w ∈ lw_good := List.forall_mem_cons.mpr ⟨mgd 1528 (by decide +kernel) (by decide +kernel), List.forall_mem_cons.mpr ⟨mgd 1487 (by decide +kernel) (by decide +kernel), List.forall_mem_cons.mpr ⟨mgd 1488 (by decide +kernel) (by decide +kernel), List.forall_mem_cons.mpr ⟨mgd 131 (by decide +kernel) (by decide +kernel), List.forall_mem_cons.mpr ⟨mgd 1489 (by decide +kernel) (by decide +kernel), fun _ h => absurd h List.not_mem_nil⟩⟩⟩⟩⟩
set_option maxRecDepth 100000 in
set_option maxHeartbeats 2000000 in
theorem c_pupk (l : Launch) : ∀ (u : Nat) (c : Nat) (r d s e p q : Nat) (R B : List Nat), Ct l yX7_unpack cX7_unpack 6 (some .boolean) 5 121 (sp_pupk u c r d s e p q R B) := by
  intro u c r d s e p q R B
  refine Ct.of (fX7, nX7, aX7, iX7, lX7, [(32, 0, 1, 0, T_bclr), (82, 0, 1, 1, T_cvar), (88, 0, 3, 1, T_ccpy), (92, 0, 3, 1, T_prep), (96, 0, 1, 1, T_cdone)], qX7, gX7, []) false tX7_unpack (fun _ S => look [(24, ([2,0,1], I_upk u c r d s e p q B S))]) (by decide) (by decide) kX7_unpack ⟨_, _, rfl⟩ fX7_ok nX7_ok aX7_ok iX7_ok lX7_ok (fun p e R s m args below meth c Q D cy z r A C hR1 hR2 => List.forall_mem_cons.mpr ⟨cOK_use (fun _ _ _ _ _ _ _ _ h => let ⟨sp, h1, h2, h3⟩ := u_bclr l _ _ _ _ _ _ _ _ h; ⟨sp, cOK_V C h1 vX7_unpack_32 ⟨by decide, by decide, by decide +kernel⟩ ⟨by rw [hR1]; decide, by rw [hR2]; decide⟩ (k := 2) (T := TX1) (N := 3) rfl (by decide) h2, h3⟩), List.forall_mem_cons.mpr ⟨cOK_use (fun _ _ _ _ _ _ _ _ h => let ⟨sp, h1, h2, h3⟩ := u_cvar l _ _ _ _ _ _ _ _ h; ⟨sp, cOK_V C h1 vX7_unpack_82 ⟨by decide, by decide, by decide +kernel⟩ ⟨by rw [hR1]; decide, by rw [hR2]; decide⟩ (k := 3) (T := TX2) (N := 3) rfl (by decide) h2, h3⟩), List.forall_mem_cons.mpr ⟨cOK_use (fun _ _ _ _ _ _ _ _ h => let ⟨sp, h1, h2, h3⟩ := u_ccpy l _ _ _ _ _ _ _ _ h; ⟨sp, cOK_V C h1 vX7_unpack_88 ⟨by decide, by decide, by decide +kernel⟩ ⟨by rw [hR1]; decide, by rw [hR2]; decide⟩ (k := 3) (T := TX2) (N := 3) rfl (by decide) h2, h3⟩), List.forall_mem_cons.mpr ⟨cOK_use (fun _ _ _ _ _ _ _ _ h => let ⟨sp, h1, h2, h3⟩ := u_prep l _ _ _ _ _ _ _ _ h; ⟨sp, cOK_V C h1 vX7_unpack_92 ⟨by decide, by decide, by decide +kernel⟩ ⟨by rw [hR1]; decide, by rw [hR2]; decide⟩ (k := 8) (T := TX7) (N := 5) rfl (by decide) h2, h3⟩), List.forall_mem_cons.mpr ⟨cOK_use (fun _ _ _ _ _ _ _ _ h => let ⟨sp, h1, h2, h3⟩ := u_cdone l _ _ _ _ _ _ _ _ h; ⟨sp, cOK_V C h1 vX7_unpack_96 ⟨by decide, by decide, by decide +kernel⟩ ⟨by rw [hR1]; decide, by rw [hR2]; decide⟩ (k := 3) (T := TX2) (N := 3) rfl (by decide) h2, h3⟩), fun _ h => absurd h List.not_mem_nil⟩⟩⟩⟩⟩) qX7_ok gX7_ok rfl ?_ ?_
  · rintro _ S ⟨rfl, hp⟩
    refine ⟨Nat.le_of_ble_eq_true rfl, 300, ?_⟩
    show (isO S 8 u ∧ (0 = 0 ∧ ((pa (mR S 800 u) fun a_1 => ((isO S 2 a_1) ∧ 0 ≤ addNC (upk B q p).2.1.length (mN S d) 0 ∧ 0 ≤ addNS (upk B q p).2.1.length (mN S d) 0 ∧ ((0 = 0 ∧ (∃ (s_3 d_4 p_5 q_6 : Nat) (B_7 : List Nat), (Cu (clr S a_1) c s_3 p_5 q_6 ∧ By (clr S a_1) s_3 d_4 B_7) ∧ 0 ≤ addNC (upk B q p).2.1.length (mN S d) 0 ∧ 0 ≤ addNS (upk B q p).2.1.length (mN S d) 0 ∧ ((((oI (vint B_7 q_6 p_5).1) < 0 → (([] : List MV) = [] ∧ mret (some .boolean) (sp_pupk u c r d s e p q R B) [.inr (.inr (some u)), .inr (.inr (some c))] S (some (.inl (0 : Int32))) (sI (clr S a_1) 301 c (nI (vint B_7 q_6 p_5).2)) 0 0)) ∧ (¬ (oI (vint B_7 q_6 p_5).1) < 0 → (((oI (vint B_7 q_6 p_5).1) ≤ (32768 : Int32) → (∃ k1, I_upk u c r d s e p q B S k1 [(2, .inl (oI (vint B_7 q_6 p_5).1)), (0, .inr (.inr (some u))), (1, .inr (.inr (some c)))] [] (sI (clr S a_1) 301 c (nI (vint B_7 q_6 p_5).2)) 0 0)) ∧ (¬ (oI (vint B_7 q_6 p_5).1) ≤ (32768 : Int32) → (([] : List MV) = [] ∧ mret (some .boolean) (sp_pupk u c r d s e p q R B) [.inr (.inr (some u)), .inr (.inr (some c))] S (some (.inl (0 : Int32))) (sI (clr S a_1) 301 c (nI (vint B_7 q_6 p_5).2)) 0 0))))))))))))))
    obtain ⟨h1, h2, hR, hC, hB, hsr, hed⟩ := hp
    have kC : Keep (fun b => b = r) S (clr S r) := ((Keep.rf : Keep (fun b => b = r) S S).sI rfl).sI rfl
    have hC0 : Cu (clr S r) c s p q := hC.keep kC (isO_ne hC.1 hR.1 (by decide))
    have hB0 : By (clr S r) s e B := hB.keep kC hsr (isO_ne hB.2.2.1 hR.1 (by decide))
    have hA0 : Apk (upW c r d) (clr S r) (clr S r) r d d [] [] := ⟨hR.clear, Keep.rf, Or.inl rfl, (if_pos (by decide)).symm, rfl⟩
    have hv := vint_le (B := B) hC.2.2.2.2.1
    have k1 : Keep (fun b => b = c) (clr S r) (sI (clr S r) 301 c (nI (vint B q p).2)) := Keep.rf.sI rfl
    have hA1 := hA0.step k1 (isO_ne hR.1 hC.1 (by decide)) (isO_ne hR.2.2.1 hC.1 (by decide)) (fun b _ z => Or.inr (Or.inr z))
    have hC1 := hC0.mv hv.2
    have hno : ∀ (z : upk B q p = (false, [], (vint B q p).2)), mret (some .boolean) (sp_pupk u c r d s e p q R B) [.inr (.inr (some u)), .inr (.inr (some c))] S (some (.inl 0)) (sI (clr S r) 301 c (nI (vint B q p).2)) 0 0 := fun z => ⟨Or.inl rfl, ⟨ret_f (by rw [z]; exact Bool.false_ne_true) rfl, d, by rw [z]; exact ⟨hA1, hC1⟩⟩, Nat.zero_le _, Nat.zero_le _⟩
    rw [h2]
    refine ⟨h1, rfl, hR.1, Nat.zero_le _, Nat.zero_le _, rfl, s, e, p, q, B, ⟨hC0, hB0⟩, Nat.zero_le _, Nat.zero_le _, ?_⟩
    cases ev : (vint B q p).1 with
    | none => exact ⟨fun _ => ⟨rfl, hno (by rw [upk, ev])⟩, fun z => absurd (by decide) z⟩
    | some tt =>
      have hn := vint_lt hB.bytesLt ev
      show (nI tt < 0 → _) ∧ _
      refine ⟨fun z => absurd z (nI_pos hn), fun _ => if_le (b := 32768) hn (by decide) (fun h3 => ⟨tt + 1, tt, [], (vint B q p).2, d, h3, Nat.zero_le _, by simp, ?_, hv.2, (fun x hx => by cases hx), rfl, rfl, hA1, hC1, rfl, rfl⟩) (fun h3 => ⟨rfl, hno ?_⟩)⟩
      · rw [upk, ev]; simp only; rw [if_pos h3]
      · rw [upk, ev]; simp only; rw [if_neg (by omega)]
  · intro av S hpre pc I hI k lo st S1 cs sl h
    obtain ⟨rfl, hp⟩ := hpre
    have hm := look_in hI
    rw [List.mem_singleton] at hm
    cases hm
    obtain ⟨tt, R1, p1, d1, ht, hR1, hf, hU, hp1, hlt, rfl, rfl, hA, hC, rfl, rfl⟩ := h
    refine ⟨300, ?_⟩
    show (isO S1 8 u ∧ (pa (mR S1 800 u) fun a_1 => isO S1 2 a_1 ∧ (((nI tt) ≤ (mI S1 201 a_1) → (0 = 0 ∧ (∃ (s_2 p_3 q_4 : Nat), (Cu S1 c s_2 p_3 q_4) ∧ (addNC R1.length (mN S d) 0) ≤ addNC (upk B q p).2.1.length (mN S d) 0 ∧ (addNS R1.length (mN S d) 0) ≤ addNS (upk B q p).2.1.length (mN S d) 0 ∧ ((([] : List MV) = [] ∧ mret (some .boolean) (sp_pupk u c r d s e p q R B) [.inr (.inr (some u)), .inr (.inr (some c))] S (some (.inl (tf (q_4 ≤ p_3)))) S1 (addNC R1.length (mN S d) 0) (addNS R1.length (mN S d) 0)))))) ∧ (¬ (nI tt) ≤ (mI S1 201 a_1) → (0 = 0 ∧ (∃ (s_6 d_7 p_8 q_9 : Nat) (B_10 : List Nat), (Cu S1 c s_6 p_8 q_9 ∧ By S1 s_6 d_7 B_10) ∧ (addNC R1.length (mN S d) 0) ≤ addNC (upk B q p).2.1.length (mN S d) 0 ∧ (addNS R1.length (mN S d) 0) ≤ addNS (upk B q p).2.1.length (mN S d) 0 ∧ (((((oI (vint B_10 q_9 p_8).1) >>> ((1 : Int32) &&& 31)) < (1 : Int32) → (([] : List MV) = [] ∧ mret (some .boolean) (sp_pupk u c r d s e p q R B) [.inr (.inr (some u)), .inr (.inr (some c))] S (some (.inl (0 : Int32))) (sI S1 301 c (nI (vint B_10 q_9 p_8).2)) (addNC R1.length (mN S d) 0) (addNS R1.length (mN S d) 0))) ∧ (¬ ((oI (vint B_10 q_9 p_8).1) >>> ((1 : Int32) &&& 31)) < (1 : Int32) → (isO (sI S1 301 c (nI (vint B_10 q_9 p_8).2)) 8 u ∧ (pa (mR (sI S1 301 c (nI (vint B_10 q_9 p_8).2)) 800 u) fun a_12 => isO (sI S1 301 c (nI (vint B_10 q_9 p_8).2)) 2 a_12 ∧ ((((oI (vint B_10 q_9 p_8).1) >>> ((1 : Int32) &&& 31)) ≤ ((nI tt) - (mI (sI S1 301 c (nI (vint B_10 q_9 p_8).2)) 201 a_12)) → ((¬ ((oI (vint B_10 q_9 p_8).1) &&& (1 : Int32)) = 0 → (0 = 0 ∧ (∃ (s_13 d_14 p_15 q_16 : Nat) (B_17 : List Nat), (Cu (sI S1 301 c (nI (vint B_10 q_9 p_8).2)) c s_13 p_15 q_16 ∧ By (sI S1 301 c (nI (vint B_10 q_9 p_8).2)) s_13 d_14 B_17) ∧ addNC R1.length (mN S d) 0 ≤ addNC (upk B q p).2.1.length (mN S d) 0 ∧ addNS R1.length (mN S d) 0 ≤ addNS (upk B q p).2.1.length (mN S d) 0 ∧ ((0 = 0 ∧ (∃ (n_19 : Nat), (oI (vint B_10 q_9 p_8).1) >>> ((1 : Int32) &&& 31) = nI n_19 ∧ (∃ (r_20 d_21 : Nat) (o_22 : Option Nat) (R_23 : List Nat), (isO (sI (sI S1 301 c (nI (vint B_10 q_9 p_8).2)) 301 c (nI (vint B_17 q_16 p_15).2)) 8 u ∧ mR (sI (sI S1 301 c (nI (vint B_10 q_9 p_8).2)) 301 c (nI (vint B_17 q_16 p_15).2)) 800 u = some r_20 ∧ By (sI (sI S1 301 c (nI (vint B_10 q_9 p_8).2)) 301 c (nI (vint B_17 q_16 p_15).2)) r_20 d_21 R_23 ∧ R_23.length + n_19 ≤ 32768 ∧ (oI (vint B_17 q_16 p_15).1) = oI o_22 ∧ (∀ x, o_22 = some x → x < 2147483648)) ∧ addNC R1.length (mN S d) 0 + (if repB n_19 o_22 R_23.length = true then addNC n_19 (mN (sI (sI S1 301 c (nI (vint B_10 q_9 p_8).2)) 301 c (nI (vint B_17 q_16 p_15).2)) d_21) R_23.length else 0) ≤ addNC (upk B q p).2.1.length (mN S d) 0 ∧ addNS R1.length (mN S d) 0 + (if repB n_19 o_22 R_23.length = true then addNS n_19 (mN (sI (sI S1 301 c (nI (vint B_10 q_9 p_8).2)) 301 c (nI (vint B_17 q_16 p_15).2)) d_21) R_23.length else 0) ≤ addNS (upk B q p).2.1.length (mN S d) 0 ∧ (∀ (x_25 : Int32) (S_24 : MM), (repP (sI (sI S1 301 c (nI (vint B_10 q_9 p_8).2)) 301 c (nI (vint B_17 q_16 p_15).2)) S_24 r_20 d_21 n_19 o_22 R_23 x_25) → ((¬ x_25 = 0 → (∃ k1, k1 < k ∧ I_upk u c r d s e p q B S k1 [(2, .inl (nI tt)), (0, .inr (.inr (some u))), (1, .inr (.inr (some c)))] [] S_24 (addNC R1.length (mN S d) 0 + (if repB n_19 o_22 R_23.length = true then addNC n_19 (mN (sI (sI S1 301 c (nI (vint B_10 q_9 p_8).2)) 301 c (nI (vint B_17 q_16 p_15).2)) d_21) R_23.length else 0)) (addNS R1.length (mN S d) 0 + (if repB n_19 o_22 R_23.length = true then addNS n_19 (mN (sI (sI S1 301 c (nI (vint B_10 q_9 p_8).2)) 301 c (nI (vint B_17 q_16 p_15).2)) d_21) R_23.length else 0)))) ∧ (x_25 = 0 → (([] : List MV) = [] ∧ mret (some .boolean) (sp_pupk u c r d s e p q R B) [.inr (.inr (some u)), .inr (.inr (some c))] S (some (.inl (0 : Int32))) S_24 (addNC R1.length (mN S d) 0 + (if repB n_19 o_22 R_23.length = true then addNC n_19 (mN (sI (sI S1 301 c (nI (vint B_10 q_9 p_8).2)) 301 c (nI (vint B_17 q_16 p_15).2)) d_21) R_23.length else 0)) (addNS R1.length (mN S d) 0 + (if repB n_19 o_22 R_23.length = true then addNS n_19 (mN (sI (sI S1 301 c (nI (vint B_10 q_9 p_8).2)) 301 c (nI (vint B_17 q_16 p_15).2)) d_21) R_23.length else 0))))))))))))) ∧ (((oI (vint B_10 q_9 p_8).1) &&& (1 : Int32)) = 0 → (isO (sI S1 301 c (nI (vint B_10 q_9 p_8).2)) 8 u ∧ (0 = 0 ∧ ((pa (mR (sI S1 301 c (nI (vint B_10 q_9 p_8).2)) 800 u) fun a_26 => (∃ (n_27 : Nat), (oI (vint B_10 q_9 p_8).1) >>> ((1 : Int32) &&& 31) = nI n_27 ∧ (∃ (s_28 d_29 p_30 q_31 e_32 : Nat) (B_33 O_34 : List Nat), (Cu (sI S1 301 c (nI (vint B_10 q_9 p_8).2)) c s_28 p_30 q_31 ∧ By (sI S1 301 c (nI (vint B_10 q_9 p_8).2)) s_28 d_29 B_33 ∧ By (sI S1 301 c (nI (vint B_10 q_9 p_8).2)) a_26 e_32 O_34 ∧ s_28 ≠ a_26 ∧ d_29 ≠ e_32 ∧ n_27 < 2147483648) ∧ addNC R1.length (mN S d) 0 + (if n_27 ≤ q_31 - p_30 then addNC n_27 (mN (sI S1 301 c (nI (vint B_10 q_9 p_8).2)) e_32) O_34.length else 0) ≤ addNC (upk B q p).2.1.length (mN S d) 0 ∧ addNS R1.length (mN S d) 0 + (if n_27 ≤ q_31 - p_30 then addNS n_27 (mN (sI S1 301 c (nI (vint B_10 q_9 p_8).2)) e_32) O_34.length else 0) ≤ addNS (upk B q p).2.1.length (mN S d) 0 ∧ (∀ (x_36 : Int32) (S_35 : MM), (cpyP (sI S1 301 c (nI (vint B_10 q_9 p_8).2)) S_35 c a_26 e_32 n_27 p_30 q_31 B_33 O_34 x_36) → ((¬ x_36 = 0 → (∃ k1, k1 < k ∧ I_upk u c r d s e p q B S k1 [(2, .inl (nI tt)), (0, .inr (.inr (some u))), (1, .inr (.inr (some c)))] [] S_35 (addNC R1.length (mN S d) 0 + (if n_27 ≤ q_31 - p_30 then addNC n_27 (mN (sI S1 301 c (nI (vint B_10 q_9 p_8).2)) e_32) O_34.length else 0)) (addNS R1.length (mN S d) 0 + (if n_27 ≤ q_31 - p_30 then addNS n_27 (mN (sI S1 301 c (nI (vint B_10 q_9 p_8).2)) e_32) O_34.length else 0)))) ∧ (x_36 = 0 → (([] : List MV) = [] ∧ mret (some .boolean) (sp_pupk u c r d s e p q R B) [.inr (.inr (some u)), .inr (.inr (some c))] S (some (.inl (0 : Int32))) S_35 (addNC R1.length (mN S d) 0 + (if n_27 ≤ q_31 - p_30 then addNC n_27 (mN (sI S1 301 c (nI (vint B_10 q_9 p_8).2)) e_32) O_34.length else 0)) (addNS R1.length (mN S d) 0 + (if n_27 ≤ q_31 - p_30 then addNS n_27 (mN (sI S1 301 c (nI (vint B_10 q_9 p_8).2)) e_32) O_34.length else 0))))))))))))))) ∧ (¬ ((oI (vint B_10 q_9 p_8).1) >>> ((1 : Int32) &&& 31)) ≤ ((nI tt) - (mI (sI S1 301 c (nI (vint B_10 q_9 p_8).2)) 201 a_12)) → (([] : List MV) = [] ∧ mret (some .boolean) (sp_pupk u c r d s e p q R B) [.inr (.inr (some u)), .inr (.inr (some c))] S (some (.inl (0 : Int32))) (sI S1 301 c (nI (vint B_10 q_9 p_8).2)) (addNC R1.length (mN S d) 0) (addNS R1.length (mN S d) 0)))))))))))))))
    obtain ⟨h1, h2, hR, hC9, hB, hsr, hed⟩ := hp
    obtain ⟨k, rfl⟩ : ∃ k', k = k' + 1 := ⟨k - 1, by omega⟩
    have hW : ∀ b kk, isO S kk b → kk ≠ 2 → kk ≠ 16 → kk ≠ 3 → ¬ upW c r d b := fun b kk hb g1 g2 g3 z => z.elim (isO_ne hb hR.1 g1) (fun z => z.elim (isO_ne hb hR.2.2.1 g2) (isO_ne hb hC9.1 g3))
    have K := hA.2.1
    have h1' : isO S1 8 u := K.isO h1
    have h2' : mR S1 800 u = some r := by rw [(K.2.1 u h1.1 (hW u 8 h1 (by decide) (by decide) (by decide))).2.1]; exact h2
    have hB1 : By S1 s e B := by
      have kC : Keep (fun b => b = r) S (clr S r) := ((Keep.rf : Keep (fun b => b = r) S S).sI rfl).sI rfl
      have hB0 : By (clr S r) s e B := hB.keep kC hsr (isO_ne hB.2.2.1 hR.1 (by decide))
      exact hB0.keep K (fun z => z.elim hsr (fun z => z.elim (isO_ne hB.1 hR.2.2.1 (by decide)) (isO_ne hB.1 hC9.1 (by decide)))) (fun z => z.elim (isO_ne hB.2.2.1 hR.1 (by decide)) (fun z => z.elim hed (isO_ne hB.2.2.1 hC9.1 (by decide))))
    have hBy := hA.1
    rw [bPuts_map hlt (by omega)] at hBy
    have hed1 : e ≠ d1 := fun z => hA.2.2.1.elim (fun w => hed (z.trans w)) (fun w => w (z ▸ hB.2.2.1.1))
    have hlU : R1.length ≤ (upk B q p).2.1.length := by rw [hU]; exact upkF_len
    have g1 := addNC_mono (mN S d) 0 hlU
    have g2 := addNS_mono (mN S d) 0 hlU
    have hv := vint_le (B := B) hp1
    have hno : ∀ (S2 : MM) (p2 : Nat), upk B q p = (false, R1, p2) → Apk (upW c r d) (clr S r) S2 r d d1 [] (R1.map nI) → Cu S2 c s p2 q → mret (some .boolean) (sp_pupk u c r d s e p q R B) [.inr (.inr (some u)), .inr (.inr (some c))] S (some (.inl 0)) S2 (addNC R1.length (mN S d) 0) (addNS R1.length (mN S d) 0) := fun S2 p2 z a1 a2 => ⟨Or.inl rfl, ⟨ret_f (by rw [z]; exact Bool.false_ne_true) rfl, d1, by rw [z]; exact ⟨a1, a2⟩⟩, g1, g2⟩
    have mvA : ∀ p2, Apk (upW c r d) (clr S r) (sI S1 301 c (nI p2)) r d d1 [] (R1.map nI) := fun p2 => hA.step (Q := fun b => b = c) (Keep.rf.sI rfl) (isO_ne hBy.1 hC.1 (by decide)) (isO_ne hBy.2.2.1 hC.1 (by decide)) (fun b _ z => Or.inr (Or.inr z))
    have mvB : ∀ p2, By (sI S1 301 c (nI p2)) s e B := fun p2 => hB1.keep (P := fun b => b = c) (Keep.rf.sI rfl) (isO_ne hB1.1 hC.1 (by decide)) (isO_ne hB1.2.2.1 hC.1 (by decide))
    have mvR : ∀ p2, By (sI S1 301 c (nI p2)) r d1 R1 := fun p2 => hBy.keep (P := fun b => b = c) (Keep.rf.sI rfl) (isO_ne hBy.1 hC.1 (by decide)) (isO_ne hBy.2.2.1 hC.1 (by decide))
    rw [upkF] at hU
    rw [h2']
    refine ⟨h1', hBy.1, ?_⟩
    rw [hBy.2.2.2.1]
    refine if_le (by omega) (by omega) (fun h3 => ⟨rfl, s, p1, q, hC, g1, g2, rfl, ?_, ⟨?_, d1, ?_⟩, g1, g2⟩) (fun h3 => ⟨rfl, s, e, p1, q, B, ⟨hC, hB1⟩, g1, g2, ?_⟩)
    · by_cases z : q ≤ p1
      · rw [tf_t z]; exact Or.inr rfl
      · rw [tf_f z]; exact Or.inl rfl
    · rw [hU, if_pos h3]
      have e9 : (decide (q ≤ p1) = true) = (q ≤ p1) := by simp
      show _ = some (Sum.inl (tf (decide (q ≤ p1) = true)))
      rw [e9]
    · rw [hU, if_pos h3]; exact ⟨hA, hC⟩
    rw [if_neg (by omega)] at hU
    cases ev : (vint B q p1).1 with
    | none =>
      rw [ev] at hU
      simp only at hU
      exact ⟨fun _ => ⟨rfl, hno _ _ hU (mvA _) (hC.mv hv.2)⟩, fun z => absurd (by decide) z⟩
    | some v =>
      have hn := vint_lt hB.bytesLt ev
      rw [ev] at hU
      simp only at hU
      rw [show oI (some v) = nI v from rfl, shr1_nI hn, and1_nI hn]
      refine if_lt (b := 1) (by omega) (by decide) (fun h4 => ⟨rfl, hno _ _ (by rw [hU, if_pos (Or.inl h4)]) (mvA _) (hC.mv hv.2)⟩) (fun h4 => ⟨h1', pa_i h2' ⟨(mvR _).1, ?_⟩⟩)
      rw [(mvR _).2.2.2.1, pk_sub hR1]
      refine if_le (by omega) (by omega) (fun h5 => ?_) (fun h5 => ⟨rfl, hno _ _ (by rw [hU, if_pos (Or.inr h5)]) (mvA _) (hC.mv hv.2)⟩)
      rw [if_neg (by omega)] at hU
      refine if_ne (b := 0) (by omega) (by decide) (fun h6 => ?_) (fun h6 => ?_)
      · have hv2 := vint_le (B := B) hv.2
        rw [if_neg h6] at hU
        refine ⟨rfl, s, e, (vint B q p1).2, q, B, ⟨hC.mv hv.2, mvB _⟩, g1, g2, rfl, v / 2, rfl, r, d1, (vint B q (vint B q p1).2).1, R1, ?_⟩
        rw [sI_sI]
        refine ⟨⟨h1', h2', mvR _, by omega, rfl, fun x hx => vint_lt hB.bytesLt hx⟩, ?_⟩
        have hmN : mN (sI S1 301 c (nI (vint B q (vint B q p1).2).2)) d1 = mN S1 d1 := rfl
        rw [hmN]
        cases ew : (vint B q (vint B q p1).2).1 with
        | none =>
          rw [ew] at hU
          simp only at hU
          rw [show repB (v / 2) none R1.length = false from rfl]
          simp only [Bool.false_eq_true, if_false, Nat.add_zero]
          refine ⟨g1, g2, fun x S2 hz => ?_⟩
          rcases hz with ⟨rfl, x, d', hx, -⟩ | ⟨rfl, -, rfl⟩
          · cases hx
          · exact ⟨fun z => absurd rfl z, fun _ => ⟨trivial, hno _ _ hU (mvA _) (hC.mv hv2.2)⟩⟩
        | some b =>
          rw [ew] at hU
          simp only at hU
          by_cases hq : 4 ≤ v / 2 ∧ 1 ≤ b ∧ b ≤ R1.length
          · rw [if_pos hq] at hU
            rw [repB_t hq.1 hq.2.1 hq.2.2, if_pos rfl, if_pos rfl]
            have hlU2 : R1.length + v / 2 ≤ (upk B q p).2.1.length := by
              rw [hU]; refine Nat.le_trans ?_ upkF_len; rw [List.length_append, repW_len]; exact Nat.le_refl _
            have g3 := addNC_mono (mN S d) 0 hlU2
            have g4 := addNS_mono (mN S d) 0 hlU2
            obtain ⟨c1, c2⟩ := hA.costN (Nat.zero_le _) (v / 2)
            rw [bPuts_map hlt (by omega), List.length_map] at c1 c2
            have c1 : addNC R1.length (mN S d) 0 + addNC (v / 2) (mN S1 d1) R1.length = addNC (R1.length + v / 2) (mN S d) 0 := c1
            have c2 : addNS R1.length (mN S d) 0 + addNS (v / 2) (mN S1 d1) R1.length = addNS (R1.length + v / 2) (mN S d) 0 := c2
            refine ⟨by omega, by omega, fun x S2 hz => ?_⟩
            rcases hz with ⟨rfl, x, d', hx, -, -, -, A2⟩ | ⟨rfl, hz, -⟩
            · cases hx
              refine ⟨fun _ => ?_, fun z => absurd z (by decide)⟩
              have hA2 := (mvA (vint B q (vint B q p1).2).2).app (Nat.zero_le _) (Or.inl rfl) (Or.inr (Or.inl rfl)) (by rw [bPuts_map hlt (by omega)]; exact A2)
              rw [← List.map_append] at hA2
              have nk : ¬ (c = r ∨ c = d1) := fun z => z.elim (isO_ne hC.1 hBy.1 (by decide)) (isO_ne hC.1 hBy.2.2.1 (by decide))
              refine ⟨k, by omega, tt, R1 ++ repW R1 b (v / 2), (vint B q (vint B q p1).2).2, d', ht, by rw [List.length_append, repW_len]; omega, by rw [List.length_append, repW_len]; omega, hU, hv2.2, fun x hx => ?_, rfl, rfl, hA2, (hC.mv hv2.2).keep A2.2.1 nk, ?_, ?_⟩
              · rw [List.mem_append] at hx
                exact hx.elim (hlt x) (repW_lt hlt _ x)
              · rw [List.length_append, repW_len]; exact c1
              · rw [List.length_append, repW_len]; exact c2
            · exact absurd ⟨hq.1, b, rfl, hq.2⟩ hz
          · rw [if_neg hq] at hU
            rw [show repB (v / 2) (some b) R1.length = false from decide_eq_false hq]
            simp only [Bool.false_eq_true, if_false, Nat.add_zero]
            refine ⟨g1, g2, fun x S2 hz => ?_⟩
            rcases hz with ⟨rfl, x, d', hx, a1, a2, a3, -⟩ | ⟨rfl, -, rfl⟩
            · cases hx; exact absurd ⟨a1, a2, a3⟩ hq
            · exact ⟨fun z => absurd rfl z, fun _ => ⟨trivial, hno _ _ hU (mvA _) (hC.mv hv2.2)⟩⟩
      · rw [if_pos h6] at hU
        refine ⟨h1', rfl, pa_i h2' ⟨v / 2, rfl, s, e, (vint B q p1).2, q, d1, B, R1, ⟨hC.mv hv.2, mvB _, mvR _, hsr, hed1, by omega⟩, ?_⟩⟩
        have hmN : mN (sI S1 301 c (nI (vint B q p1).2)) d1 = mN S1 d1 := rfl
        rw [hmN]
        by_cases hq : v / 2 ≤ q - (vint B q p1).2
        · rw [if_pos hq] at hU
          rw [if_pos hq, if_pos hq]
          have hq9 := hC.2.2.2.2.2
          have hlU2 : R1.length + v / 2 ≤ (upk B q p).2.1.length := by
            rw [hU]; refine Nat.le_trans ?_ upkF_len; rw [List.length_append, slc_len]; exact Nat.le_refl _
          have g3 := addNC_mono (mN S d) 0 hlU2
          have g4 := addNS_mono (mN S d) 0 hlU2
          obtain ⟨c1, c2⟩ := hA.costN (Nat.zero_le _) (v / 2)
          rw [bPuts_map hlt (by omega), List.length_map] at c1 c2
          have c1 : addNC R1.length (mN S d) 0 + addNC (v / 2) (mN S1 d1) R1.length = addNC (R1.length + v / 2) (mN S d) 0 := c1
          have c2 : addNS R1.length (mN S d) 0 + addNS (v / 2) (mN S1 d1) R1.length = addNS (R1.length + v / 2) (mN S d) 0 := c2
          refine ⟨by omega, by omega, fun x S2 hz => ?_⟩
          rcases hz with ⟨rfl, -, S3, d', A2, rfl⟩ | ⟨rfl, hz, -⟩
          · refine ⟨fun _ => ?_, fun z => absurd z (by decide)⟩
            rw [rngV_slc (by omega)] at A2
            have hA2 := (mvA (vint B q p1).2).app (Nat.zero_le _) (Or.inl rfl) (Or.inr (Or.inl rfl)) (by rw [bPuts_map hlt (by omega)]; exact A2)
            rw [← List.map_append] at hA2
            have nk : ¬ (c = r ∨ c = d1) := fun z => z.elim (isO_ne hC.1 hBy.1 (by decide)) (isO_ne hC.1 hBy.2.2.1 (by decide))
            have hC3 := (hC.mv hv.2).keep A2.2.1 nk
            refine ⟨k, by omega, tt, R1 ++ slc B (vint B q p1).2 (v / 2), (vint B q p1).2 + v / 2, d', ht, by rw [List.length_append, slc_len]; omega, by rw [List.length_append, slc_len]; omega, hU, by omega, fun x hx => ?_, rfl, rfl, hA2.step (Q := fun b => b = c) (Keep.rf.sI rfl) (isO_ne hA2.1.1 hC3.1 (by decide)) (isO_ne hA2.1.2.2.1 hC3.1 (by decide)) (fun b _ z => Or.inr (Or.inr z)), hC3.mv (by omega), ?_, ?_⟩
            · rw [List.mem_append] at hx
              exact hx.elim (hlt x) (slc_lt hB.bytesLt _ _ x)
            · rw [List.length_append, slc_len]; exact c1
            · rw [List.length_append, slc_len]; exact c2
          · omega
        · rw [if_neg hq] at hU
          rw [if_neg hq, if_neg hq]
          simp only [Nat.add_zero]
          refine ⟨g1, g2, fun x S2 hz => ?_⟩
          rcases hz with ⟨rfl, hz, -⟩ | ⟨rfl, -, rfl⟩
          · omega
          · exact ⟨fun z => absurd rfl z, fun _ => ⟨trivial, hno _ _ hU (mvA _) (hC.mv hv.2)⟩⟩
theorem u_pupk (l : Launch) : Us l yX7_unpack cX7_unpack 6 (some .boolean) 5 121 8 T_pupk := by
  intro Rc Rs av S cs sl K Kx h
  unfold T_pupk at h
  split at h
  · rename_i u_o c_o
    obtain ⟨u, rfl, h_1⟩ := pa_of h
    obtain ⟨c, rfl, h_2⟩ := pa_of h_1
    obtain ⟨r, d, s, e, p, q, R, B, hp, hc, hs, hk⟩ := h_2
    refine ⟨(sp_pupk u c r d s e p q R B), c_pupk l u c r d s e p q R B, fun _ _ h9 => ⟨_, _, h9.1, h9.2.1⟩, ⟨rfl, hp⟩, hc, hs, fun v9 S' h8 => by
      obtain ⟨h7, h8⟩ := h8
      cases h7
      exact hk _ h8, fun _ _ q => q.elim⟩
  · exact h.elim
