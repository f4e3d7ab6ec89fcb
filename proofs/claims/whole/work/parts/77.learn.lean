/-! ===== Peer.learn ===== -/
/-- n pairs of an agent and a count: agents rise, counts aren't 0; where the reading stands behind them -/
def lrnR (B : List Nat) (q : Nat) : Nat → Nat → Nat → Option (List (Nat × Nat) × Nat)
  | 0, p, _ => some ([], p)
  | n + 1, p, m => match (vint B q p).1 with
    | none => none
    | some a => if m ≤ a ∧ a < 256 then (match (vint B q (vint B q p).2).1 with
      | none => none
      | some c => if 1 ≤ c then (lrnR B q n (vint B q (vint B q p).2).2 (a + 1)).map (fun r => ((a, c) :: r.1, r.2)) else none) else none
/-- what a summary says, if it is sound -/
def lrn (B : List Nat) : Option (List (Nat × Nat)) := match (vint B (B.length - 4) 3).1 with
  | none => none
  | some n => match lrnR B (B.length - 4) n (vint B (B.length - 4) 3).2 0 with
    | none => none
    | some r => if B.length - 4 ≤ r.2 then some r.1 else none
def kfold (l : List (Nat × Nat)) : Nat → Nat := l.foldl (fun f q => updN f q.1 q.2) (fun _ => 0)
def lrnK (Kn : Nat → Nat → Nat) (B : List Nat) : Nat → Nat → Nat := match lrn B with
  | none => Kn
  | some l => fun o j => if o = B.getD 2 0 then kfold l j else Kn o j
def lmI : Nat → Int32
  | 0 => -1
  | k + 1 => nI k
def lrnP (S : MM) (b s cu d kn : Nat) (kr : Nat → Nat) (Kn : Nat → Nat → Nat) (B : List Nat) : Prop := isO S 11 b ∧ mR S 1105 b = some cu ∧ isO S 3 cu ∧ By S s d B ∧ 7 ≤ B.length ∧ B.getD 2 0 < 4 ∧ KnR S b kn kr Kn ∧ ∀ o o', o < 4 → o' < 4 → kr o = kr o' → o = o'
def lrnQ (S S' : MM) (b cu kn : Nat) (kr : Nat → Nat) (Kn : Nat → Nat → Nat) (B : List Nat) : Prop := Keep (fun x => x = cu ∨ x = kr (B.getD 2 0)) S S' ∧ KnR S' b kn kr (lrnK Kn B)
def I_l1 (b s cu d : Nat) (B : List Nat) (S : MM) (t : Nat) : KT := fun lo st S1 cs sl => ∃ k p m no dn, (match no with
    | none => k = 0 ∧ t = 1
    | some n => k + t = n + 1 + 2147483648 ∧ k ≤ n ∧ n < 2147483648 ∧ lrnR B (B.length - 4) n (vint B (B.length - 4) 3).2 0 = (lrnR B (B.length - 4) (n - k) p m).map (fun r => (dn ++ r.1, r.2))) ∧ m ≤ 256 ∧ (vint B (B.length - 4) 3).1 = no ∧ lo = [(4, .inl (nI k)), (3, .inl (lmI m)), (2, .inl (oI no)), (0, .inr (.inr (some b))), (1, .inr (.inr (some s)))] ∧ st = [] ∧ Cu S1 cu s p (B.length - 4) ∧ Keep (fun x => x = cu) S S1 ∧ cs = 0 ∧ sl = 0
def I_l2 (b s cu d : Nat) (kr : Nat → Nat) (B : List Nat) (S : MM) (t : Nat) : KT := fun lo st S1 cs sl => ∃ k p m n dn rs l, k + t = n ∧ lrn B = some l ∧ n < 2147483648 ∧ lrnR B (B.length - 4) (n - k) p m = some (rs, B.length - 4) ∧ l = dn ++ rs ∧ lo = [(5, .inl (nI k)), (4, .inr (.inr (some (kr (B.getD 2 0))))), (2, .inl (nI n)), (0, .inr (.inr (some b)))] ∧ st = [] ∧ Cu S1 cu s p (B.length - 4) ∧ Keep (fun x => x = cu ∨ x = kr (B.getD 2 0)) S S1 ∧ (∀ j, j < 256 → eI S1 (kr (B.getD 2 0)) j = nI (kfold dn j) ∧ kfold dn j < 2147483648) ∧ cs = 0 ∧ sl = 0
section LRN
variable {S S1 : MM} {b s cu d kn : Nat} {kr : Nat → Nat} {Kn : Nat → Nat → Nat} {B : List Nat}
theorem lrnP.keep (h : lrnP S b s cu d kn kr Kn B) (hk : Keep (fun x => x = cu ∨ x = kr (B.getD 2 0)) S S1) : isO S1 11 b ∧ mR S1 1105 b = some cu ∧ isO S1 3 cu ∧ By S1 s d B ∧ mR S1 1103 b = some kn ∧ isO S1 28 kn ∧ mN S1 kn = 4 ∧ (∀ o, o < 4 → eR S1 kn o = some (kr o) ∧ isO S1 17 (kr o) ∧ mN S1 (kr o) = 256) ∧ ∀ o, o < 4 → o ≠ B.getD 2 0 → eI S1 (kr o) = eI S (kr o) := by
  obtain ⟨h1, h2, h3, hB, h7, h8, ⟨k1, k2, k3, k4⟩, hj⟩ := h
  have r := (k4 _ h8).2.1
  have n1 : ∀ {x k : Nat}, isO S k x → k ≠ 3 → k ≠ 17 → ¬ (x = cu ∨ x = kr (B.getD 2 0)) := fun hx q1 q2 z => z.elim (isO_ne hx h3 q1) (isO_ne hx r q2)
  have hb := n1 h1 (by decide) (by decide)
  have hkn := n1 k2 (by decide) (by decide)
  refine ⟨hk.isO h1, ((hk.2.1 b h1.1 hb).2.1 _).trans h2, hk.isO h3, hB.keep hk (n1 hB.1 (by decide) (by decide)) (n1 hB.2.2.1 (by decide) (by decide)), ((hk.2.1 b h1.1 hb).2.1 _).trans k1, hk.isO k2, ((hk.1 kn k2.1).2.2).trans k3, fun o ho => ?_, fun o ho hne => ?_⟩
  · obtain ⟨r1, r2, r3, -⟩ := k4 o ho
    exact ⟨by rw [(hk.2.1 kn k2.1 hkn).2.2.2.2.2]; exact r1, hk.isO r2, ((hk.1 _ r2.1).2.2).trans r3⟩
  · obtain ⟨r1, r2, r3, -⟩ := k4 o ho
    refine (hk.2.1 _ r2.1 (fun z => z.elim (isO_ne r2 h3 (by decide)) (fun e => hne (hj _ _ ho h8 e)))).2.2.2.1
theorem lrnP.no (h : lrnP S b s cu d kn kr Kn B) (hk : Keep (fun x => x = cu) S S1) (hn : lrn B = none) : lrnQ S S1 b cu kn kr Kn B := by
  have hk2 : Keep (fun x => x = cu ∨ x = kr (B.getD 2 0)) S S1 := hk.mono (fun _ _ q => Or.inl q)
  obtain ⟨-, -, -, -, f4, f5, f6, f7, -⟩ := h.keep hk2
  refine ⟨hk2, f4, f5, f6, fun o ho => ⟨(f7 o ho).1, (f7 o ho).2.1, (f7 o ho).2.2, fun j hj => ?_⟩⟩
  have r := h.2.2.2.2.2.2.1.2.2.2 o ho
  rw [(hk.2.1 _ r.2.1.1 (isO_ne r.2.1 h.2.2.1 (by decide))).2.2.2.1]
  unfold lrnK
  rw [hn]
  exact r.2.2.2 j hj
theorem lrnP.yes (h : lrnP S b s cu d kn kr Kn B) (hk : Keep (fun x => x = cu ∨ x = kr (B.getD 2 0)) S S1) {l : List (Nat × Nat)} (hl : lrn B = some l) (hr : ∀ j, j < 256 → eI S1 (kr (B.getD 2 0)) j = nI (kfold l j) ∧ kfold l j < 2147483648) : lrnQ S S1 b cu kn kr Kn B := by
  obtain ⟨-, -, -, -, f4, f5, f6, f7, f8⟩ := h.keep hk
  refine ⟨hk, f4, f5, f6, fun o ho => ⟨(f7 o ho).1, (f7 o ho).2.1, (f7 o ho).2.2, fun j hj => ?_⟩⟩
  unfold lrnK
  rw [hl]
  dsimp only
  by_cases q : o = B.getD 2 0
  · rw [if_pos q, q]
    exact hr j hj
  · rw [if_neg q, f8 o ho q]
    exact (h.2.2.2.2.2.2.1.2.2.2 o ho).2.2.2 j hj
theorem lmI_ge {m : Nat} (h : m ≤ 256) : (-1 : Int32) ≤ lmI m := by
  cases m with
  | zero => exact (by decide : (-1 : Int32) ≤ -1)
  | succ k => exact Int32.le_trans (by decide : (-1 : Int32) ≤ nI 0) ((nI_leI (by decide) (by omega)).mpr (Nat.zero_le k))
theorem lmI_le {a m : Nat} (ha : a < 2147483648) (h : m ≤ 256) : nI a ≤ lmI m ↔ a < m := by
  cases m with
  | zero =>
    refine ⟨fun z => ?_, fun z => absurd z (Nat.not_lt_zero _)⟩
    have w : nI 0 ≤ nI a := (nI_leI (by decide) ha).mpr (Nat.zero_le _)
    exact absurd (Int32.le_trans w z) (by decide)
  | succ k => exact (nI_leI ha (by omega)).trans ⟨fun z => Nat.lt_succ_of_le z, fun z => Nat.le_of_lt_succ z⟩
theorem lrn_at {n p m : Nat} {dn : List (Nat × Nat)} {j : Nat} (hv : (vint B (B.length - 4) 3).1 = some n) (hL : lrnR B (B.length - 4) n (vint B (B.length - 4) 3).2 0 = (lrnR B (B.length - 4) j p m).map (fun r => (dn ++ r.1, r.2))) : lrn B = match lrnR B (B.length - 4) j p m with
    | none => none
    | some r => if B.length - 4 ≤ r.2 then some (dn ++ r.1) else none := by
  unfold lrn
  rw [hv]
  dsimp only
  rw [hL]
  cases lrnR B (B.length - 4) j p m <;> rfl
theorem kfold_snoc (l : List (Nat × Nat)) (a c : Nat) : kfold (l ++ [(a, c)]) = updN (kfold l) a c := by
  unfold kfold
  rw [List.foldl_append]
  rfl
end LRN
def T_pln : TR := fun Rc Rs av S cs sl K _Kx => match av with
  | [.inr (.inr b_o), .inr (.inr s_o)] => pa b_o fun b => (pa s_o fun s => (∃ (cu d kn : Nat) (kr : Nat → Nat) (Kn : Nat → Nat → Nat) (B : List Nat), (lrnP S b s cu d kn kr Kn B) ∧ cs ≤ Rc ∧ sl ≤ Rs ∧ (∀ (S' : MM), (lrnQ S S' b cu kn kr Kn B) → K (some (.inl (tf (lrn B ≠ none)))) S' cs sl)))
  | _ => False
def sp_pln (b : Nat) (s : Nat) (cu d kn : Nat) (kr : Nat → Nat) (Kn : Nat → Nat → Nat) (B : List Nat) : Sp := (fun av S => av = [.inr (.inr (some b)), .inr (.inr (some s))] ∧ (lrnP S b s cu d kn kr Kn B), fun _ S => 0, fun _ S => 0, fun _ S rv S' => rv = (some (.inl (tf (lrn B ≠ none)))) ∧ (lrnQ S S' b cu kn kr Kn B), fun _ _ _ _ => False)
def tX10_learn : CD := [(0, .aload_n 0), (1, .aload_n 1), (2, .invokevirtual 156), (5, .aload_n 0), (6, .getfield 39), (9, .invokevirtual 160), (12, .istore_n 2), (13, .iconst (-1)), (14, .istore_n 3), (15, .iconst 0), (16, .istore 4), (18, .iload 4), (20, .iload_n 2), (21, .if_icmp .ge 48), (24, .aload_n 0), (25, .getfield 39), (28, .invokevirtual 160), (31, .istore 5), (33, .iload 5), (35, .iload_n 3), (36, .if_icmp .le 22), (39, .iload 5), (41, .sipush 256), (44, .if_icmp .ge 14), (47, .aload_n 0), (48, .getfield 39), (51, .invokevirtual 160), (54, .iconst 1), (55, .if_icmp .ge 5), (58, .iconst 0), (59, .ireturn), (60, .iload 5), (62, .istore_n 3), (63, .iinc 4 1), (66, .goto (-48)), (69, .iload_n 2), (70, .ifCond .lt 13), (73, .aload_n 0), (74, .getfield 39), (77, .invokevirtual 163), (80, .ifCond .ne 5), (83, .iconst 0), (84, .ireturn), (85, .aload_n 0), (86, .getfield 27), (89, .aload_n 1), (90, .iconst 2), (91, .invokevirtual 166), (94, .aaload), (95, .astore 4), (97, .aload 4), (99, .iconst 0), (100, .invokestatic 168), (103, .aload_n 0), (104, .aload_n 1), (105, .invokevirtual 156), (108, .aload_n 0), (109, .getfield 39), (112, .invokevirtual 160), (115, .pop), (116, .iconst 0), (117, .istore 5), (119, .iload 5), (121, .iload_n 2), (122, .if_icmp .ge 30), (125, .aload_n 0), (126, .getfield 39), (129, .invokevirtual 160), (132, .istore 6), (134, .aload 4), (136, .iload 6), (138, .aload_n 0), (139, .getfield 39), (142, .invokevirtual 160), (145, .iastore), (146, .iinc 5 1), (149, .goto (-30)), (152, .iconst 1), (153, .ireturn)]
set_option maxRecDepth 100000 in
theorem kX10_learn : chk cX10_learn tX10_learn = true := by decide +kernel
theorem vX10_learn_156 : ∀ w ∈ ([.methodLink RX10 156 yX10_openBody, .instanceMethod yX10_openBody, .selects yX10_openBody.cls yX10_openBody yX10_openBody, .initialized yX10_openBody.cls, .code yX10_openBody cX10_openBody 2 none] : List Cond), w ∈ lw_good := List.forall_mem_cons.mpr ⟨mgd 1473 (by decide +kernel) (by decide +kernel), List.forall_mem_cons.mpr ⟨mgd 1475 (by decide +kernel) (by decide +kernel), List.forall_mem_cons.mpr ⟨mgd 37 (by decide +kernel) (by decide +kernel), List.forall_mem_cons.mpr ⟨mgd 124 (by decide +kernel) (by decide +kernel), List.forall_mem_cons.mpr ⟨mgd 1476 (by decide +kernel) (by decide +kernel), fun _ h => absurd h List.not_mem_nil⟩⟩⟩⟩⟩
theorem vX10_learn_160 : ∀ w ∈ ([.methodLink RX10 160 yX2_varint, .instanceMethod yX2_varint, .selects yX2_varint.cls yX2_varint yX2_varint, .initialized yX2_varint.cls, .code yX2_varint cX2_varint 4 (some .int)] : List Cond), w ∈ lw_good := List.forall_mem_cons.mpr ⟨mgd 1481 (by decide +kernel) (by decide +kernel), List.forall_mem_cons.mpr ⟨mgd 1482 (by decide +kernel) (by decide +kernel), List.forall_mem_cons.mpr ⟨mgd 1483 (by decide +kernel) (by decide +kernel), List.forall_mem_cons.mpr ⟨mgd 131 (by decide +kernel) (by decide +kernel), List.forall_mem_cons.mpr ⟨mgd 1484 (by decide +kernel) (by decide +kernel), fun _ h => absurd h List.not_mem_nil⟩⟩⟩⟩⟩
theorem vX10_learn_163 : ∀ w ∈ ([.methodLink RX10 163 yX2_isDone, .instanceMethod yX2_isDone, .selects yX2_isDone.cls yX2_isDone yX2_isDone, .initialized yX2_isDone.cls, .code yX2_isDone cX2_isDone 1 (some .boolean)] : List Cond), w ∈ lw_good := List.forall_mem_cons.mpr ⟨mgd 1486 (by decide +kernel) (by decide +kernel), List.forall_mem_cons.mpr ⟨mgd 1487 (by decide +kernel) (by decide +kernel), List.forall_mem_cons.mpr ⟨mgd 1488 (by decide +kernel) (by decide +kernel), List.forall_mem_cons.mpr ⟨mgd 131 (by decide +kernel) (by decide +kernel), List.forall_mem_cons.mpr ⟨mgd 1489 (by decide +kernel) (by decide +kernel), fun _ h => absurd h List.not_mem_nil⟩⟩⟩⟩⟩
theorem vX10_learn_166 : ∀ w ∈ ([.methodLink RX10 166 yX1_get, .instanceMethod yX1_get, .selects yX1_get.cls yX1_get yX1_get, .initialized yX1_get.cls, .code yX1_get cX1_get 2 (some .int)] : List Cond), w ∈ lw_good := List.forall_mem_cons.mpr ⟨mgd 1490 (by decide +kernel) (by decide +kernel), List.forall_mem_cons.mpr ⟨mgd 840 (by decide +kernel) (by decide +kernel), List.forall_mem_cons.mpr ⟨mgd 841 (by decide +kernel) (by decide +kernel), List.forall_mem_cons.mpr ⟨mgd 122 (by decide +kernel) (by decide +kernel), List.forall_mem_cons.mpr ⟨mgd 842 (by decide +kernel) (by decide +kernel), fun _ h => absurd h List.not_mem_nil⟩⟩⟩⟩⟩
theorem vX10_learn_168 : ∀ w ∈ ([.methodLink RX10 168 yJ7_fill_53178, .static yJ7_fill_53178, .initialized yJ7_fill_53178.cls, .code yJ7_fill_53178 cJ7_fill_53178 4 none] : List Cond), w ∈ lw_good := List.forall_mem_cons.mpr ⟨mgd 1491 (by decide +kernel) (by decide +kernel), List.forall_mem_cons.mpr ⟨mgd 604 (by decide +kernel) (by decide +kernel), List.forall_mem_cons.mpr ⟨mgd 135 (by decide +kernel) (by decide +kernel), List.forall_mem_cons.mpr ⟨mgd 605 (by decide +kernel) (by decide +kernel), fun _ h => absurd h List.not_mem_nil⟩⟩⟩⟩
set_option maxRecDepth 100000 in
set_option maxHeartbeats 2000000 in
theorem c_pln (l : Launch) : ∀ (b : Nat) (s : Nat) (cu d kn : Nat) (kr : Nat → Nat) (Kn : Nat → Nat → Nat) (B : List Nat), Ct l yX10_learn cX10_learn 7 (some .boolean) 2 44 (sp_pln b s cu d kn kr Kn B) := by
  intro b s cu d kn kr Kn B
  refine Ct.of (fX10, nX10, aX10, iX10, lX10, [(156, 0, 2, 0, T_pob), (160, 0, 1, 1, T_cvar), (163, 0, 1, 1, T_cdone), (166, 0, 2, 1, T_bget), (168, 2, 2, 0, T_fillI)], qX10, gX10, []) false tX10_learn (fun _ S => look [(18, ([4,3,2,0,1], I_l1 b s cu d B S)), (119, ([5,4,2,0], I_l2 b s cu d kr B S))]) (by decide) (by decide) kX10_learn ⟨_, _, rfl⟩ fX10_ok nX10_ok aX10_ok iX10_ok lX10_ok (fun p e R s m args below meth c Q D cy z r A C hR1 hR2 => List.forall_mem_cons.mpr ⟨cOK_use (fun _ _ _ _ _ _ _ _ h => let ⟨sp, h1, h2, h3⟩ := u_pob l _ _ _ _ _ _ _ _ h; ⟨sp, cOK_V C h1 vX10_learn_156 ⟨by decide, by decide, by decide +kernel⟩ ⟨by rw [hR1]; decide, by rw [hR2]; decide⟩ (k := 11) (T := TX10) (N := 6) rfl (by decide) h2, h3⟩), List.forall_mem_cons.mpr ⟨cOK_use (fun _ _ _ _ _ _ _ _ h => let ⟨sp, h1, h2, h3⟩ := u_cvar l _ _ _ _ _ _ _ _ h; ⟨sp, cOK_V C h1 vX10_learn_160 ⟨by decide, by decide, by decide +kernel⟩ ⟨by rw [hR1]; decide, by rw [hR2]; decide⟩ (k := 3) (T := TX2) (N := 3) rfl (by decide) h2, h3⟩), List.forall_mem_cons.mpr ⟨cOK_use (fun _ _ _ _ _ _ _ _ h => let ⟨sp, h1, h2, h3⟩ := u_cdone l _ _ _ _ _ _ _ _ h; ⟨sp, cOK_V C h1 vX10_learn_163 ⟨by decide, by decide, by decide +kernel⟩ ⟨by rw [hR1]; decide, by rw [hR2]; decide⟩ (k := 3) (T := TX2) (N := 3) rfl (by decide) h2, h3⟩), List.forall_mem_cons.mpr ⟨cOK_use (fun _ _ _ _ _ _ _ _ h => let ⟨sp, h1, h2, h3⟩ := u_bget l _ _ _ _ _ _ _ _ h; ⟨sp, cOK_V C h1 vX10_learn_166 ⟨by decide, by decide, by decide +kernel⟩ ⟨by rw [hR1]; decide, by rw [hR2]; decide⟩ (k := 2) (T := TX1) (N := 3) rfl (by decide) h2, h3⟩), List.forall_mem_cons.mpr ⟨cOK_use (fun _ _ _ _ _ _ _ _ h => let ⟨sp, h1, _, h3⟩ := u_fillI l _ _ _ _ _ _ _ _ h; ⟨sp, cOK_S C h1 vX10_learn_168 ⟨by decide, by decide, by decide +kernel⟩ ⟨by rw [hR1]; decide, by rw [hR2]; decide⟩, h3⟩), fun _ h => absurd h List.not_mem_nil⟩⟩⟩⟩⟩) qX10_ok gX10_ok rfl ?_ ?_
  · rintro _ S ⟨rfl, hp⟩
    refine ⟨Nat.le_of_ble_eq_true rfl, 300, ?_⟩
    show (0 = 0 ∧ (∃ (cu_1 d_2 : Nat) (B_3 : List Nat), (isO S 11 b ∧ mR S 1105 b = some cu_1 ∧ isO S 3 cu_1 ∧ By S s d_2 B_3 ∧ 7 ≤ B_3.length) ∧ 0 ≤ 0 ∧ 0 ≤ 0 ∧ ((isO (obS S cu_1 s B_3.length) 11 b ∧ (0 = 0 ∧ ((pa (mR (obS S cu_1 s B_3.length) 1105 b) fun a_5 => (∃ (s_6 d_7 p_8 q_9 : Nat) (B_10 : List Nat), (Cu (obS S cu_1 s B_3.length) a_5 s_6 p_8 q_9 ∧ By (obS S cu_1 s B_3.length) s_6 d_7 B_10) ∧ 0 ≤ 0 ∧ 0 ≤ 0 ∧ ((∃ k1, I_l1 b s cu d B S k1 [(4, .inl (0 : Int32)), (3, .inl (-1 : Int32)), (2, .inl (oI (vint B_10 q_9 p_8).1)), (0, .inr (.inr (some b))), (1, .inr (.inr (some s)))] [] (sI (obS S cu_1 s B_3.length) 301 a_5 (nI (vint B_10 q_9 p_8).2)) 0 0))))))))))
    have hp0 := hp
    obtain ⟨h1, h2, h3, hB, h7, h8, hKn, hj⟩ := hp
    have hl := hB.len
    obtain ⟨c1, c2⟩ := obS_cu h3 hB h7
    obtain ⟨f1, f2, -, fB, -⟩ := hp0.keep (c2.mono (fun _ _ q => Or.inl q))
    refine ⟨rfl, cu, d, B, ⟨h1, h2, h3, hB, h7⟩, Nat.le_refl _, Nat.le_refl _, f1, rfl, pa_i f2 ⟨s, d, 3, B.length - 4, B, ⟨c1, fB⟩, Nat.le_refl _, Nat.le_refl _, ?_⟩⟩
    have vl := (vint_le (B := B) (q := B.length - 4) (p := 3) (by omega)).2
    have kK : Keep (fun x => x = cu) S (sI (obS S cu s B.length) 301 cu (nI (vint B (B.length - 4) 3).2)) := Keep.sI (P := fun x => x = cu) c2 rfl
    cases hv : (vint B (B.length - 4) 3).1 with
    | none => exact ⟨1, 0, _, 0, none, [], ⟨rfl, rfl⟩, by decide, hv, rfl, rfl, c1.mv vl, kK, rfl, rfl⟩
    | some n =>
      refine ⟨n + 1 + 2147483648, 0, _, 0, some n, [], ⟨by omega, Nat.zero_le _, vint_lt hB.bytesLt hv, ?_⟩, by decide, hv, rfl, rfl, c1.mv vl, kK, rfl, rfl⟩
      rw [Nat.sub_zero]
      cases lrnR B (B.length - 4) n (vint B (B.length - 4) 3).2 0 <;> rfl
  · intro av S hpre pc I hI k lo st S1 cs sl h
    obtain ⟨rfl, hp⟩ := hpre
    have hm := look_in hI
    simp only [List.mem_cons, List.not_mem_nil, or_false] at hm
    rcases hm with hm | hm
    · cases hm
      obtain ⟨k9, p, m, no, dn, hno, hm9, hv, rfl, rfl, hc, hK, rfl, rfl⟩ := h
      refine ⟨300, ?_⟩
      show (((oI no) ≤ (nI k9) → (((oI no) < 0 → (([] : List MV) = [] ∧ mret (some .boolean) (sp_pln b s cu d kn kr Kn B) [.inr (.inr (some b)), .inr (.inr (some s))] S (some (.inl (0 : Int32))) S1 0 0)) ∧ (¬ (oI no) < 0 → (isO S1 11 b ∧ (0 = 0 ∧ ((pa (mR S1 1105 b) fun a_1 => (∃ (s_2 p_3 q_4 : Nat), (Cu S1 a_1 s_2 p_3 q_4) ∧ 0 ≤ 0 ∧ 0 ≤ 0 ∧ (((¬ (tf (q_4 ≤ p_3)) = 0 → (isO S1 11 b ∧ (0 = 0 ∧ (∃ (d_6 : Nat) (B_7 : List Nat), (By S1 s d_6 B_7) ∧ 0 ≤ 0 ∧ 0 ≤ 0 ∧ ((pa (mR S1 1103 b) fun a_9 => a_9 ∈ mL S1 ∧ ¬ mK S1 a_9 < 21 ∧ mK S1 a_9 < 29 ∧ inR S1 a_9 (bAt B_7 (2 : Int32)) ∧ (2 = 2 ∧ ((pa (eR S1 a_9 (bAt B_7 (2 : Int32)).toNatClampNeg) fun a_10 => ((isO S1 17 a_10 ∧ mN S1 a_10 < 2147483648) ∧ 0 ≤ 0 ∧ 0 ≤ 0 ∧ ((0 = 0 ∧ (∃ (cu_12 d_13 : Nat) (B_14 : List Nat), (isO (rI S1 a_10 (fillF (eI S1 a_10) (mN S1 a_10) (0 : Int32))) 11 b ∧ mR (rI S1 a_10 (fillF (eI S1 a_10) (mN S1 a_10) (0 : Int32))) 1105 b = some cu_12 ∧ isO (rI S1 a_10 (fillF (eI S1 a_10) (mN S1 a_10) (0 : Int32))) 3 cu_12 ∧ By (rI S1 a_10 (fillF (eI S1 a_10) (mN S1 a_10) (0 : Int32))) s d_13 B_14 ∧ 7 ≤ B_14.length) ∧ 0 ≤ 0 ∧ 0 ≤ 0 ∧ ((isO (obS (rI S1 a_10 (fillF (eI S1 a_10) (mN S1 a_10) (0 : Int32))) cu_12 s B_14.length) 11 b ∧ (0 = 0 ∧ ((pa (mR (obS (rI S1 a_10 (fillF (eI S1 a_10) (mN S1 a_10) (0 : Int32))) cu_12 s B_14.length) 1105 b) fun a_16 => (∃ (s_17 d_18 p_19 q_20 : Nat) (B_21 : List Nat), (Cu (obS (rI S1 a_10 (fillF (eI S1 a_10) (mN S1 a_10) (0 : Int32))) cu_12 s B_14.length) a_16 s_17 p_19 q_20 ∧ By (obS (rI S1 a_10 (fillF (eI S1 a_10) (mN S1 a_10) (0 : Int32))) cu_12 s B_14.length) s_17 d_18 B_21) ∧ 0 ≤ 0 ∧ 0 ≤ 0 ∧ ((∃ k1, k1 < k ∧ I_l2 b s cu d kr B S k1 [(5, .inl (0 : Int32)), (4, .inr (.inr (eR S1 a_9 (bAt B_7 (2 : Int32)).toNatClampNeg))), (2, .inl (oI no)), (0, .inr (.inr (some b)))] [] (sI (obS (rI S1 a_10 (fillF (eI S1 a_10) (mN S1 a_10) (0 : Int32))) cu_12 s B_14.length) 301 a_16 (nI (vint B_21 q_20 p_19).2)) 0 0))))))))))))))))))))) ∧ ((tf (q_4 ≤ p_3)) = 0 → (([] : List MV) = [] ∧ mret (some .boolean) (sp_pln b s cu d kn kr Kn B) [.inr (.inr (some b)), .inr (.inr (some s))] S (some (.inl (0 : Int32))) S1 0 0)))))))))))) ∧ (¬ (oI no) ≤ (nI k9) → (isO S1 11 b ∧ (0 = 0 ∧ ((pa (mR S1 1105 b) fun a_23 => (∃ (s_24 d_25 p_26 q_27 : Nat) (B_28 : List Nat), (Cu S1 a_23 s_24 p_26 q_27 ∧ By S1 s_24 d_25 B_28) ∧ 0 ≤ 0 ∧ 0 ≤ 0 ∧ ((((oI (vint B_28 q_27 p_26).1) ≤ (lmI m) → (([] : List MV) = [] ∧ mret (some .boolean) (sp_pln b s cu d kn kr Kn B) [.inr (.inr (some b)), .inr (.inr (some s))] S (some (.inl (0 : Int32))) (sI S1 301 a_23 (nI (vint B_28 q_27 p_26).2)) 0 0)) ∧ (¬ (oI (vint B_28 q_27 p_26).1) ≤ (lmI m) → (((256 : Int32) ≤ (oI (vint B_28 q_27 p_26).1) → (([] : List MV) = [] ∧ mret (some .boolean) (sp_pln b s cu d kn kr Kn B) [.inr (.inr (some b)), .inr (.inr (some s))] S (some (.inl (0 : Int32))) (sI S1 301 a_23 (nI (vint B_28 q_27 p_26).2)) 0 0)) ∧ (¬ (256 : Int32) ≤ (oI (vint B_28 q_27 p_26).1) → (isO (sI S1 301 a_23 (nI (vint B_28 q_27 p_26).2)) 11 b ∧ (0 = 0 ∧ ((pa (mR (sI S1 301 a_23 (nI (vint B_28 q_27 p_26).2)) 1105 b) fun a_30 => (∃ (s_31 d_32 p_33 q_34 : Nat) (B_35 : List Nat), (Cu (sI S1 301 a_23 (nI (vint B_28 q_27 p_26).2)) a_30 s_31 p_33 q_34 ∧ By (sI S1 301 a_23 (nI (vint B_28 q_27 p_26).2)) s_31 d_32 B_35) ∧ 0 ≤ 0 ∧ 0 ≤ 0 ∧ ((((1 : Int32) ≤ (oI (vint B_35 q_34 p_33).1) → (∃ k1, k1 < k ∧ I_l1 b s cu d B S k1 [(4, .inl ((nI k9) + (1 : Int32))), (3, .inl (oI (vint B_28 q_27 p_26).1)), (2, .inl (oI no)), (0, .inr (.inr (some b))), (1, .inr (.inr (some s)))] [] (sI (sI S1 301 a_23 (nI (vint B_28 q_27 p_26).2)) 301 a_30 (nI (vint B_35 q_34 p_33).2)) 0 0)) ∧ (¬ (1 : Int32) ≤ (oI (vint B_35 q_34 p_33).1) → (([] : List MV) = [] ∧ mret (some .boolean) (sp_pln b s cu d kn kr Kn B) [.inr (.inr (some b)), .inr (.inr (some s))] S (some (.inl (0 : Int32))) (sI (sI S1 301 a_23 (nI (vint B_28 q_27 p_26).2)) 301 a_30 (nI (vint B_35 q_34 p_33).2)) 0 0)))))))))))))))))))))
      obtain ⟨f1, f2, f3, fB, f4, f5, f6, f7, f8⟩ := hp.keep (hK.mono (fun _ _ q => Or.inl q))
      have hp0 := hp
      obtain ⟨h1, h2, h3, hB, h7, h8, hKn, hj⟩ := hp
      have hl := hB.len
      have ret0 : ∀ (S2 : MM), Keep (fun x => x = cu) S S2 → lrn B = none → (([] : List MV) = [] ∧ mret (some .boolean) (sp_pln b s cu d kn kr Kn B) [.inr (.inr (some b)), .inr (.inr (some s))] S (some (.inl (0 : Int32))) S2 0 0) := fun S2 k2 hn =>
        ⟨rfl, Or.inl rfl, ⟨by rw [tf_f (fun z => z hn)], hp0.no k2 hn⟩, Nat.le_refl _, Nat.le_refl _⟩
      cases no with
      | none =>
        have hn : lrn B = none := by unfold lrn; rw [hv]
        refine ⟨fun z => ⟨fun w => ret0 _ hK hn, fun w => absurd (by decide : (-1 : Int32) < 0) w⟩, fun z => absurd ?_ z⟩
        rw [hno.1]
        exact (by decide : (-1 : Int32) ≤ nI 0)
      | some n =>
        obtain ⟨hk9, hkn, hn, hL⟩ := hno
        have hA := lrn_at hv hL
        refine if_le (a := n) (b := k9) hn (by omega) (fun z => ?_) (fun z => ?_)
        · have e9 : k9 = n := by omega
          subst e9
          rw [Nat.sub_self] at hL hA
          have hA : lrn B = if B.length - 4 ≤ p then some (dn ++ []) else none := hA
          rw [List.append_nil] at hA
          refine if_lt (a := k9) (b := 0) hn (by decide) (fun z => absurd z (Nat.not_lt_zero _)) (fun _ => ?_)
          refine ⟨f1, rfl, pa_i f2 ⟨s, p, B.length - 4, hc, Nat.le_refl _, Nat.le_refl _, fun w => ?_, fun w => ?_⟩⟩
          · have hq : B.length - 4 ≤ p := by
              by_cases q : B.length - 4 ≤ p
              · exact q
              · exact absurd (tf_f q) w
            have pq : p = B.length - 4 := Nat.le_antisymm hc.2.2.2.2.1 hq
            rw [if_pos hq] at hA
            have eb : bAt B (2 : Int32) = nI (B.getD 2 0) := bAt_nI (p := 2) (by decide)
            have ec : (bAt B (2 : Int32)).toNatClampNeg = B.getD 2 0 := by rw [eb, nI_clamp (by omega)]
            obtain ⟨r1, r2, r3⟩ := f7 _ h8
            have kR : Keep (fun x => x = cu ∨ x = kr (B.getD 2 0)) S (rI S1 (kr (B.getD 2 0)) (fillF (eI S1 (kr (B.getD 2 0))) (mN S1 (kr (B.getD 2 0))) 0)) := Keep.rI (P := fun x => x = cu ∨ x = kr (B.getD 2 0)) (hK.mono (fun _ _ q => Or.inl q)) (Or.inr rfl)
            have er : eI (rI S1 (kr (B.getD 2 0)) (fillF (eI S1 (kr (B.getD 2 0))) (mN S1 (kr (B.getD 2 0))) 0)) (kr (B.getD 2 0)) = fillF (eI S1 (kr (B.getD 2 0))) (mN S1 (kr (B.getD 2 0))) 0 := va_up_self _ _ _
            refine ⟨f1, rfl, d, B, fB, Nat.le_refl _, Nat.le_refl _, pa_i f4 ⟨f5.1, by rw [f5.2]; decide, by rw [f5.2]; decide, ?_, rfl, pa_i (by rw [ec]; exact r1) ⟨⟨r2, by rw [r3]; decide⟩, Nat.le_refl _, Nat.le_refl _, ?_⟩⟩⟩
            · show vp_in (bAt B 2) (mN S1 kn)
              rw [eb, f6]
              exact vp_in_nI h8 (by decide)
            · rw [ec, r1]
              generalize rI S1 (kr (B.getD 2 0)) (fillF (eI S1 (kr (B.getD 2 0))) (mN S1 (kr (B.getD 2 0))) 0) = S2 at *
              obtain ⟨g1, g2, g3, gB, -⟩ := hp0.keep kR
              obtain ⟨c1, c2⟩ := obS_cu g3 gB h7
              have kS := kR.tr (c2.mono (fun _ _ q => Or.inl (b := _ = kr (B.getD 2 0)) q))
              obtain ⟨e1, e2, -, eB, -⟩ := hp0.keep kS
              have vl := (vint_le (B := B) (q := B.length - 4) (p := 3) (by omega)).2
              refine ⟨rfl, cu, d, B, ⟨g1, g2, g3, gB, h7⟩, Nat.le_refl _, Nat.le_refl _, e1, rfl, pa_i e2 ⟨s, d, 3, B.length - 4, B, ⟨c1, eB⟩, Nat.le_refl _, Nat.le_refl _, ?_⟩⟩
              refine ⟨k9, by omega, 0, _, 0, k9, [], dn, dn, Nat.zero_add _, hA, hn, ?_, rfl, rfl, rfl, c1.mv vl, Keep.sI (P := fun x => x = cu ∨ x = kr (B.getD 2 0)) kS (Or.inl rfl), fun j hj9 => ?_, rfl, rfl⟩
              · rw [Nat.sub_zero, hL]
                show some (dn ++ [], p) = _
                rw [List.append_nil, pq]
              · refine ⟨?_, (by decide : 0 < 2147483648)⟩
                show eI S2 (kr (B.getD 2 0)) j = nI 0
                rw [er, r3, fillF_in hj9]
                rfl
          · have hq : ¬ B.length - 4 ≤ p := fun q => by rw [tf_t q] at w; exact absurd w (by decide)
            rw [if_neg hq] at hA
            exact ret0 _ hK hA
        · have hj1 : n - k9 = (n - (k9 + 1)) + 1 := by omega
          rw [hj1] at hL hA
          have hno : lrnR B (B.length - 4) ((n - (k9 + 1)) + 1) p m = none → lrn B = none := fun q => by rw [hA, q]
          have vl := (vint_le (B := B) (q := B.length - 4) hc.2.2.2.2.1).2
          refine ⟨f1, rfl, pa_i f2 ⟨s, d, p, B.length - 4, B, ⟨hc, fB⟩, Nat.le_refl _, Nat.le_refl _, ?_⟩⟩
          have k2 : Keep (fun x => x = cu) S (sI S1 301 cu (nI (vint B (B.length - 4) p).2)) := Keep.sI (P := fun x => x = cu) hK rfl
          cases hv1 : (vint B (B.length - 4) p).1 with
          | none =>
            refine ⟨fun w => ret0 _ k2 (hno ?_), fun w => absurd (lmI_ge hm9) w⟩
            unfold lrnR
            rw [hv1]
          | some a =>
            have ha := vint_lt hB.bytesLt hv1
            refine ⟨fun w => ret0 _ k2 (hno ?_), fun w => if_le (a := 256) (b := a) (by decide) ha (fun u => ret0 _ k2 (hno ?_)) (fun u => ?_)⟩
            · have w := (lmI_le ha hm9).1 w
              unfold lrnR
              rw [hv1]
              dsimp only
              rw [if_neg (by omega)]
            · unfold lrnR
              rw [hv1]
              dsimp only
              rw [if_neg (by omega)]
            · have hma : m ≤ a := Nat.le_of_not_lt (fun q => w ((lmI_le ha hm9).2 q))
              obtain ⟨g1, g2, g3, gB, -⟩ := hp0.keep (k2.mono (fun _ _ q => Or.inl (b := _ = kr (B.getD 2 0)) q))
              have c2 := hc.mv vl
              have vl2 := (vint_le (B := B) (q := B.length - 4) vl).2
              refine ⟨g1, rfl, pa_i g2 ⟨s, d, (vint B (B.length - 4) p).2, B.length - 4, B, ⟨c2, gB⟩, Nat.le_refl _, Nat.le_refl _, ?_⟩⟩
              have k3 : Keep (fun x => x = cu) S (sI (sI S1 301 cu (nI (vint B (B.length - 4) p).2)) 301 cu (nI (vint B (B.length - 4) (vint B (B.length - 4) p).2).2)) := Keep.sI (P := fun x => x = cu) k2 rfl
              cases hv2 : (vint B (B.length - 4) (vint B (B.length - 4) p).2).1 with
              | none =>
                refine ⟨fun w => absurd w (by decide), fun w => ret0 _ k3 (hno ?_)⟩
                unfold lrnR
                rw [hv1]
                dsimp only
                rw [if_pos ⟨hma, u⟩, hv2]
              | some c =>
                refine if_le (a := 1) (b := c) (by decide) (vint_lt hB.bytesLt hv2) (fun w => ?_) (fun w => ret0 _ k3 (hno ?_))
                · refine ⟨k - 1, by omega, k9 + 1, _, a + 1, some n, dn ++ [(a, c)], ⟨by omega, by omega, hn, ?_⟩, by omega, hv, by rw [nI_1]; rfl, rfl, c2.mv vl2, k3, rfl, rfl⟩
                  rw [hL]
                  have e1 : lrnR B (B.length - 4) ((n - (k9 + 1)) + 1) p m = (lrnR B (B.length - 4) (n - (k9 + 1)) (vint B (B.length - 4) (vint B (B.length - 4) p).2).2 (a + 1)).map (fun r => ((a, c) :: r.1, r.2)) := by
                    show (match (vint B (B.length - 4) p).1 with
                      | none => none
                      | some a => _) = _
                    rw [hv1]
                    dsimp only
                    rw [if_pos ⟨hma, u⟩, hv2]
                    dsimp only
                    rw [if_pos w]
                  rw [e1]
                  cases lrnR B (B.length - 4) (n - (k9 + 1)) (vint B (B.length - 4) (vint B (B.length - 4) p).2).2 (a + 1) with
                  | none => rfl
                  | some r =>
                    show some (dn ++ (a, c) :: r.1, r.2) = some ((dn ++ [(a, c)]) ++ r.1, r.2)
                    rw [List.append_assoc]
                    rfl
                · unfold lrnR
                  rw [hv1]
                  dsimp only
                  rw [if_pos ⟨hma, u⟩, hv2]
                  dsimp only
                  rw [if_neg (by omega)]
    · cases hm
      obtain ⟨k9, p, m, n, dn, rs, l9, hk9, hl9, hn, hr, hdn, rfl, rfl, hc, hK, hrow, rfl, rfl⟩ := h
      refine ⟨300, ?_⟩
      show (((nI n) ≤ (nI k9) → (([] : List MV) = [] ∧ mret (some .boolean) (sp_pln b s cu d kn kr Kn B) [.inr (.inr (some b)), .inr (.inr (some s))] S (some (.inl (1 : Int32))) S1 0 0)) ∧ (¬ (nI n) ≤ (nI k9) → (isO S1 11 b ∧ (0 = 0 ∧ ((pa (mR S1 1105 b) fun a_1 => (∃ (s_2 d_3 p_4 q_5 : Nat) (B_6 : List Nat), (Cu S1 a_1 s_2 p_4 q_5 ∧ By S1 s_2 d_3 B_6) ∧ 0 ≤ 0 ∧ 0 ≤ 0 ∧ ((isO (sI S1 301 a_1 (nI (vint B_6 q_5 p_4).2)) 11 b ∧ (0 = 0 ∧ ((pa (mR (sI S1 301 a_1 (nI (vint B_6 q_5 p_4).2)) 1105 b) fun a_8 => (∃ (s_9 d_10 p_11 q_12 : Nat) (B_13 : List Nat), (Cu (sI S1 301 a_1 (nI (vint B_6 q_5 p_4).2)) a_8 s_9 p_11 q_12 ∧ By (sI S1 301 a_1 (nI (vint B_6 q_5 p_4).2)) s_9 d_10 B_13) ∧ 0 ≤ 0 ∧ 0 ≤ 0 ∧ ((isO (sI (sI S1 301 a_1 (nI (vint B_6 q_5 p_4).2)) 301 a_8 (nI (vint B_13 q_12 p_11).2)) 17 (kr (B.getD 2 0)) ∧ inR (sI (sI S1 301 a_1 (nI (vint B_6 q_5 p_4).2)) 301 a_8 (nI (vint B_13 q_12 p_11).2)) (kr (B.getD 2 0)) (oI (vint B_6 q_5 p_4).1) ∧ (∃ k1, k1 < k ∧ I_l2 b s cu d kr B S k1 [(5, .inl ((nI k9) + (1 : Int32))), (4, .inr (.inr (some (kr (B.getD 2 0))))), (2, .inl (nI n)), (0, .inr (.inr (some b)))] [] (rI (sI (sI S1 301 a_1 (nI (vint B_6 q_5 p_4).2)) 301 a_8 (nI (vint B_13 q_12 p_11).2)) (kr (B.getD 2 0)) (upd (eI (sI (sI S1 301 a_1 (nI (vint B_6 q_5 p_4).2)) 301 a_8 (nI (vint B_13 q_12 p_11).2)) (kr (B.getD 2 0))) (oI (vint B_6 q_5 p_4).1).toNatClampNeg (oI (vint B_13 q_12 p_11).1))) 0 0))))))))))))))))
      obtain ⟨f1, f2, f3, fB, f4, f5, f6, f7, f8⟩ := hp.keep hK
      have hp0 := hp
      obtain ⟨h1, h2, h3, hB, h7, h8, hKn, hj⟩ := hp
      refine if_le (a := n) (b := k9) hn (by omega) (fun z => ?_) (fun z => ?_)
      · rw [show n - k9 = 0 by omega] at hr
        have hr : some (([] : List (Nat × Nat)), p) = some (rs, B.length - 4) := hr
        cases hr
        rw [List.append_nil] at hdn
        subst hdn
        exact ⟨rfl, Or.inr rfl, ⟨by rw [tf_t (fun q => by rw [hl9] at q; cases q)], hp0.yes hK hl9 hrow⟩, Nat.le_refl _, Nat.le_refl _⟩
      · have hj1 : n - k9 = (n - (k9 + 1)) + 1 := by omega
        rw [hj1] at hr
        have vl := (vint_le (B := B) (q := B.length - 4) hc.2.2.2.2.1).2
        have vl2 := (vint_le (B := B) (q := B.length - 4) vl).2
        have hr : (match (vint B (B.length - 4) p).1 with
          | none => none
          | some a => if m ≤ a ∧ a < 256 then (match (vint B (B.length - 4) (vint B (B.length - 4) p).2).1 with
            | none => none
            | some c => if 1 ≤ c then (lrnR B (B.length - 4) (n - (k9 + 1)) (vint B (B.length - 4) (vint B (B.length - 4) p).2).2 (a + 1)).map (fun r => ((a, c) :: r.1, r.2)) else none) else none) = some (rs, B.length - 4) := hr
        cases hv1 : (vint B (B.length - 4) p).1 with
        | none => rw [hv1] at hr; cases hr
        | some a =>
          rw [hv1] at hr
          dsimp only at hr
          by_cases q1 : m ≤ a ∧ a < 256
          rotate_left
          · rw [if_neg q1] at hr; cases hr
          rw [if_pos q1] at hr
          cases hv2 : (vint B (B.length - 4) (vint B (B.length - 4) p).2).1 with
          | none => rw [hv2] at hr; cases hr
          | some c =>
            rw [hv2] at hr
            dsimp only at hr
            by_cases q2 : 1 ≤ c
            rotate_left
            · rw [if_neg q2] at hr; cases hr
            rw [if_pos q2] at hr
            obtain ⟨r9, hr9, e9⟩ := Option.map_eq_some_iff.1 hr
            obtain ⟨r8, q8⟩ := r9
            have e7 : q8 = B.length - 4 := (Prod.mk.inj e9).2
            have e6 : rs = (a, c) :: r8 := (Prod.mk.inj e9).1.symm
            subst e6
            subst e7
            have hcl := vint_lt hB.bytesLt hv2
            have kA : Keep (fun x => x = cu ∨ x = kr (B.getD 2 0)) S (sI S1 301 cu (nI (vint B (B.length - 4) p).2)) := Keep.sI (P := fun x => x = cu ∨ x = kr (B.getD 2 0)) hK (Or.inl rfl)
            have c2 := hc.mv vl
            have erA : eI (sI S1 301 cu (nI (vint B (B.length - 4) p).2)) = eI S1 := rfl
            refine ⟨f1, rfl, pa_i f2 ⟨s, d, p, B.length - 4, B, ⟨hc, fB⟩, Nat.le_refl _, Nat.le_refl _, ?_⟩⟩
            rw [hv1]
            generalize sI S1 301 cu (nI (vint B (B.length - 4) p).2) = S2 at *
            obtain ⟨g1, g2, g3, gB, -⟩ := hp0.keep kA
            have kC : Keep (fun x => x = cu ∨ x = kr (B.getD 2 0)) S (sI S2 301 cu (nI (vint B (B.length - 4) (vint B (B.length - 4) p).2).2)) := Keep.sI (P := fun x => x = cu ∨ x = kr (B.getD 2 0)) kA (Or.inl rfl)
            have c3 := c2.mv vl2
            have erC : eI (sI S2 301 cu (nI (vint B (B.length - 4) (vint B (B.length - 4) p).2).2)) = eI S1 := erA
            refine ⟨g1, rfl, pa_i g2 ⟨s, d, (vint B (B.length - 4) p).2, B.length - 4, B, ⟨c2, gB⟩, Nat.le_refl _, Nat.le_refl _, ?_⟩⟩
            rw [hv2]
            generalize sI S2 301 cu (nI (vint B (B.length - 4) (vint B (B.length - 4) p).2).2) = S3 at *
            obtain ⟨-, -, -, -, -, -, -, f7', -⟩ := hp0.keep kC
            obtain ⟨r1, r2, r3⟩ := f7' _ h8
            have ea : (oI (some a)).toNatClampNeg = a := nI_clamp (by omega)
            refine ⟨r2, ?_, k - 1, by omega, k9 + 1, _, a + 1, n, dn ++ [(a, c)], r8, _, by omega, hl9, hn, hr9, by rw [hdn, List.append_assoc]; rfl, by rw [nI_1], rfl, c3.keep (Keep.rI (P := fun x => x = kr (B.getD 2 0)) Keep.rf rfl) (isO_ne f3 (f7 _ h8).2.1 (by decide)), Keep.rI (P := fun x => x = cu ∨ x = kr (B.getD 2 0)) kC (Or.inr rfl), fun j hj9 => ?_, rfl, rfl⟩
            · show vp_in (nI a) (mN S3 (kr (B.getD 2 0)))
              rw [r3]
              exact vp_in_nI q1.2 (by decide)
            · rw [kfold_snoc, eI_rI, if_pos rfl, erC, ea]
              by_cases q : j = a
              · subst q
                rw [updN_s]
                exact ⟨if_pos rfl, hcl⟩
              · rw [updN_o q]
                exact ⟨(if_neg q).trans (hrow j hj9).1, (hrow j hj9).2⟩
theorem u_pln (l : Launch) : Us l yX10_learn cX10_learn 7 (some .boolean) 2 44 11 T_pln := by
  intro Rc Rs av S cs sl K Kx h
  unfold T_pln at h
  split at h
  · rename_i b_o s_o
    obtain ⟨b, rfl, h_1⟩ := pa_of h
    obtain ⟨s, rfl, h_2⟩ := pa_of h_1
    obtain ⟨cu, d, kn, kr, Kn, B, hp, hc, hs, hk⟩ := h_2
    refine ⟨(sp_pln b s cu d kn kr Kn B), c_pln l b s cu d kn kr Kn B, fun _ _ h9 => ⟨_, _, h9.1, h9.2.1⟩, ⟨rfl, hp⟩, hc, hs, fun v9 S' h8 => by
      obtain ⟨h7, h8⟩ := h8
      cases h7
      exact hk _ h8, fun _ _ q => q.elim⟩
  · exact h.elim
