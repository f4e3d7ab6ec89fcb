/-! ===== The reference writes a span ===== -/
def I_sp1 (t g f m kd p : Nat) (F : Nat → Nat × Nat) (z : Nat → Nat) (Y : Nat → Nat → Nat) (R : Rb) (kz : Nat → Nat) (V : Nat → List Int32) (M : List Nat) (ex : Int32) (sb : Option Nat) (S0 : MM) (k : Nat) : KT := fun lo st S1 cs sl => ∃ j, k = 100 + (((R.Q.G p).ev f).pr.length - j) ∧ j ≤ ((R.Q.G p).ev f).pr.length ∧ ¬ onP (R.Q.G p) f sb ∧ wpS S0 S1 F t z Y R kz (updI (csA (R.Q.G p) V M f m) 2 (csA (R.Q.G p) V M f m 2 ++ (vbs 4 (nI (1 + ((R.Q.G p).ev f).pr.length)) ++ wpV (R.Q.G p) (madd M (agI (R.Q.G p) f)) ((R.Q.G p).ev f).pr j))) (wpM (R.Q.G p) (madd M (agI (R.Q.G p) f)) ((R.Q.G p).ev f).pr j) ex ∧ (wpV (R.Q.G p) (madd M (agI (R.Q.G p) f)) ((R.Q.G p).ev f).pr j).length ≤ 4 * j ∧ (∀ i, i < ((R.Q.G p).ev f).pr.length → eI S1 (z 16) i = nI (((R.Q.G p).ev f).pr.getD i 0)) ∧ lo = [(0, .inr (.inr (some t))), (1, .inr (.inr (some g))), (2, .inl (nI f)), (3, .inl (nI m)), (4, .inl (nI kd)), (6, .inl (nI ((R.Q.G p).ev f).pr.length)), (7, .inl (nI j))] ∧ st = [] ∧ cs = 0 ∧ sl = 0
def I_sp2 (t g f m kd p : Nat) (F : Nat → Nat × Nat) (z : Nat → Nat) (Y : Nat → Nat → Nat) (R : Rb) (kz : Nat → Nat) (V : Nat → List Int32) (M : List Nat) (ex : Int32) (sb : Option Nat) (S0 : MM) (k : Nat) : KT := fun lo st S1 cs sl => k = 50 ∧ wpS S0 S1 F t z Y R kz (csP (R.Q.G p) V M f m sb) (wprM (R.Q.G p) (madd M (agI (R.Q.G p) f)) f sb) ex ∧ lo = [(0, .inr (.inr (some t))), (1, .inr (.inr (some g))), (2, .inl (nI f)), (3, .inl (nI m)), (4, .inl (nI kd))] ∧ st = [] ∧ cs = 0 ∧ sl = 0
def I_sp3 (t g f m kd p l : Nat) (F : Nat → Nat × Nat) (z : Nat → Nat) (Y : Nat → Nat → Nat) (R : Rb) (kz : Nat → Nat) (V : Nat → List Int32) (M : List Nat) (ex : Int32) (sb : Option Nat) (S0 : MM) (k : Nat) : KT := fun lo st S1 cs sl => k = 20 ∧ wpS S0 S1 F t z Y R kz (csV (R.Q.G p) V M (some (f, l, m, kd)) sb ex) (csM (R.Q.G p) M (some (f, l, m, kd)) sb) ex ∧ lo = [(0, .inr (.inr (some t))), (1, .inr (.inr (some g))), (2, .inl (nI f)), (3, .inl (nI m)), (4, .inl (nI kd))] ∧ st = [] ∧ cs = 0 ∧ sl = 0
/-- the index that the next span is expected at -/
def exI (x : Nat) : Int32 := nI x - 1
def spE (G : Gr) (f l m kd : Nat) : Prop := (kd = 0 → (G.ev l).ix + 1 = (G.ev f).ix + m) ∧ (kd = 1 → (G.ev l).ix = (G.ev f).ix) ∧ (kd = 2 → (G.ev l).ix + m = (G.ev f).ix + 1)
theorem nI_nm {a : Nat} (h : a < 2147483648) : nI a ≠ -1 := fun e => by
  have := nI_pos h
  rw [e] at this
  exact this (by decide)
theorem st_eq {sb : Option Nat} {a : Nat} (ha : a < 2147483648) (hs : ∀ q, sb = some q → q < 2147483648) : nI a = stI sb ↔ sb = some a := by
  cases sb with
  | none => exact ⟨fun q => absurd q (nI_nm ha), fun q => by cases q⟩
  | some b =>
    have := hs b rfl
    exact ⟨fun q => by rw [(nI_eq ha this).1 q], fun q => by cases q; rfl⟩
theorem nI_twice (n : Nat) : (2 : Int32) * nI n = nI (2 * n) := by
  show nI 2 * nI n = nI (2 * n)
  unfold nI
  rw [Int32.ofNat_mul]
theorem nI_three (n : Nat) : (3 : Int32) * nI n = nI (3 * n) := by
  show nI 3 * nI n = nI (3 * n)
  unfold nI
  rw [Int32.ofNat_mul]
theorem lN_three (n : Nat) : (3 : Int64) * lN n = lN (3 * n) := by
  show Int64.ofNat 3 * lN n = lN (3 * n)
  unfold lN
  rw [Int64.ofNat_mul]
theorem lN_plus (a b : Nat) : lN a + lN b = lN (a + b) := by
  unfold lN
  rw [Int64.ofNat_add]
theorem ex_sub (a x : Nat) : nI a - exI x = nI (a + 1) - nI x := by
  unfold exI
  rw [sub_iff, Int32.sub_eq_add_neg (nI x), ← Int32.add_assoc, Int32.sub_add_cancel, ← nI_1, Int32.add_assoc, show (1 : Int32) + -1 = 0 from by decide, Int32.add_zero]
theorem neg_sub {w : Nat} : ∀ {c x : Nat}, x = w + c → nI c - nI x = -(nI w) := fun {c x} h => by
  rw [sub_iff, h, ← nI_add, ← Int32.add_assoc, Int32.add_left_neg, Int32.zero_add]
theorem neg_lt0 {w : Nat} (h1 : 1 ≤ w) (h2 : w < 100000) : -(nI w) < 0 := by
  apply Int32.lt_iff_toInt_lt.2
  have e : (nI w).toInt = (w : Int) := by
    show (Int32.ofNat w).toInt = _
    rw [Int32.toInt_ofNat_of_lt (by omega)]
  rw [Int32.toInt_neg, e]
  show Int.bmod (-(w : Int)) (2 ^ 32) < 0
  rw [Int.bmod_eq_of_le (by omega) (by omega)]
  omega
theorem zz_ex {a x : Nat} (ha : a ≤ 10000) (hx : x ≤ 20000) : ∃ n, n ≤ 100000 ∧ (0 ≤ nI a - exI x → 2 * (nI a - exI x) = nI n ∧ ¬ nI a - exI x < 0) ∧ (¬ 0 ≤ nI a - exI x → -2 * (nI a - exI x) - 1 = nI n ∧ nI a - exI x < 0) := by
  rw [ex_sub]
  by_cases c : x ≤ a + 1
  · have e : nI (a + 1) - nI x = nI (a + 1 - x) := pk_sub c
    have p0 := nI_pos (n := a + 1 - x) (by omega)
    rw [e]
    exact ⟨2 * (a + 1 - x), by omega, fun _ => ⟨nI_twice _, p0⟩, fun q => absurd (Int32.not_lt.1 p0) q⟩
  · obtain ⟨w, rfl⟩ : ∃ w, x = (w + 1) + (a + 1) := ⟨x - (a + 1) - 1, by omega⟩
    have e : nI (a + 1) - nI ((w + 1) + (a + 1)) = -(nI (w + 1)) := neg_sub rfl
    have p0 := neg_lt0 (w := w + 1) (by omega) (by omega)
    rw [e]
    refine ⟨2 * w + 1, by omega, fun q => absurd p0 (Int32.not_lt.2 q), fun _ => ⟨?_, p0⟩⟩
    rw [show (-2 : Int32) = -2 from rfl, Int32.neg_mul_neg, nI_twice, show 2 * (w + 1) = (2 * w + 1) + 1 by omega]
    exact (nI_dcr _).2
theorem op_ex {a x kd : Nat} (ha : a ≤ 10000) (hx : x ≤ 20000) (hk : kd < 3) : ∃ n, n ≤ 400000 ∧ opI (nI a - exI x) kd = nI n ∧ (0 ≤ nI a - exI x → (3 : Int64) * (((2 : Int32) * (nI a - exI x)).toInt64) + (nI kd).toInt64 = lN n) ∧ (¬ 0 ≤ nI a - exI x → (3 : Int64) * ((((-2 : Int32) * (nI a - exI x)) - (1 : Int32)).toInt64) + (nI kd).toInt64 = lN n) := by
  obtain ⟨n, hn, h1, h2⟩ := zz_ex ha hx
  refine ⟨3 * n + kd, by omega, ?_, fun q => ?_, fun q => ?_⟩
  · unfold opI
    by_cases c : 0 ≤ nI a - exI x
    · rw [if_neg (h1 c).2, (h1 c).1, nI_three, nI_add]
    · rw [if_pos (h2 c).2, (h2 c).1, nI_three, nI_add]
  · rw [(h1 q).1, nI_l (by omega), nI_l (by omega), lN_three, lN_plus]
  · rw [(h2 q).1, nI_l (by omega), nI_l (by omega), lN_three, lN_plus]
def T_rspn : TR := fun Rc Rs av S cs sl K _Kx => match av with
  | [.inr (.inr t_o), .inr (.inr g_o), .inl f_v, .inl m_v, .inl kd_v, .inl la] => pa t_o fun t => (pa g_o fun g => (∃ (f : Nat), f_v = nI f ∧ (∃ (m : Nat), m_v = nI m ∧ (∃ (kd : Nat), kd_v = nI kd ∧ (∃ (S0 : MM) (F : Nat → Nat × Nat) (z : Nat → Nat) (Y : Nat → Nat → Nat) (R : Rb) (kz : Nat → Nat) (V : Nat → List Int32) (M : List Nat) (x p e0 : Nat) (sb : Option Nat), (wpS S0 S F t z Y R kz V M (exI x) ∧ AbC R ∧ p < 4 ∧ g = Y p 0 ∧ f < (R.Q.G p).n ∧ e0 < (R.Q.G p).n ∧ m ≤ 8192 ∧ kd < 3 ∧ x ≤ 20000 ∧ la = stI sb ∧ (∀ q, sb = some q → q < (R.Q.G p).n) ∧ spE (R.Q.G p) f e0 m kd ∧ (V 1).length + 100 ≤ 1000000 ∧ (V 2).length + 200 ≤ 1000000 ∧ (V 3).length + 100 ≤ 1000000) ∧ cs ≤ Rc ∧ sl ≤ Rs ∧ (∀ (S' : MM), (wpS S0 S' F t z Y R kz (csV (R.Q.G p) V M (some (f, e0, m, kd)) sb (exI x)) (csM (R.Q.G p) M (some (f, e0, m, kd)) sb) (csE (R.Q.G p) (some (f, e0, m, kd)) (exI x))) → K none S' cs sl))))))
  | _ => False
def sp_rspn (t : Nat) (g : Nat) (f : Nat) (m : Nat) (kd : Nat) (la : Int32) (S0 : MM) (F : Nat → Nat × Nat) (z : Nat → Nat) (Y : Nat → Nat → Nat) (R : Rb) (kz : Nat → Nat) (V : Nat → List Int32) (M : List Nat) (x p e0 : Nat) (sb : Option Nat) : Sp := (fun av S => av = [.inr (.inr (some t)), .inr (.inr (some g)), .inl (nI f), .inl (nI m), .inl (nI kd), .inl la] ∧ (wpS S0 S F t z Y R kz V M (exI x) ∧ AbC R ∧ p < 4 ∧ g = Y p 0 ∧ f < (R.Q.G p).n ∧ e0 < (R.Q.G p).n ∧ m ≤ 8192 ∧ kd < 3 ∧ x ≤ 20000 ∧ la = stI sb ∧ (∀ q, sb = some q → q < (R.Q.G p).n) ∧ spE (R.Q.G p) f e0 m kd ∧ (V 1).length + 100 ≤ 1000000 ∧ (V 2).length + 200 ≤ 1000000 ∧ (V 3).length + 100 ≤ 1000000), fun _ S => 0, fun _ S => 0, fun _ S rv S' => rv = none ∧ (wpS S0 S' F t z Y R kz (csV (R.Q.G p) V M (some (f, e0, m, kd)) sb (exI x)) (csM (R.Q.G p) M (some (f, e0, m, kd)) sb) (csE (R.Q.G p) (some (f, e0, m, kd)) (exI x))), fun _ _ _ _ => False)
def tX14_span : CD := [(0, .aload_n 0), (1, .getfield 79), (4, .aload_n 0), (5, .aload_n 1), (6, .getfield 265), (9, .aload_n 1), (10, .getfield 268), (13, .iload_n 2), (14, .iaload), (15, .iaload), (16, .invokevirtual 374), (19, .i2l), (20, .invokevirtual 326), (23, .aload_n 0), (24, .getfield 79), (27, .aload_n 1), (28, .getfield 271), (31, .iload_n 2), (32, .iaload), (33, .i2l), (34, .invokevirtual 326), (37, .aload_n 0), (38, .getfield 79), (41, .iload_n 3), (42, .i2l), (43, .invokevirtual 326), (46, .aload_n 1), (47, .aload_n 1), (48, .getfield 342), (51, .bipush 16), (53, .iload_n 2), (54, .imul), (55, .aload_n 0), (56, .getfield 51), (59, .invokevirtual 278), (62, .istore 6), (64, .iload 6), (66, .iconst 1), (67, .if_icmp .ne 25), (70, .aload_n 0), (71, .getfield 51), (74, .iconst 0), (75, .iaload), (76, .iload 5), (78, .if_icmp .ne 14), (81, .aload_n 0), (82, .getfield 82), (85, .lconst 0), (86, .invokevirtual 326), (89, .goto 80), (92, .aload_n 0), (93, .getfield 82), (96, .iconst 1), (97, .iload 6), (99, .iadd), (100, .i2l), (101, .invokevirtual 326), (104, .iconst 0), (105, .istore 7), (107, .iload 7), (109, .iload 6), (111, .if_icmp .ge 58), (114, .aload_n 0), (115, .getfield 82), (118, .aload_n 0), (119, .aload_n 1), (120, .getfield 265), (123, .aload_n 1), (124, .getfield 268), (127, .aload_n 0), (128, .getfield 51), (131, .iload 7), (133, .iaload), (134, .iaload), (135, .iaload), (136, .invokevirtual 374), (139, .i2l), (140, .invokevirtual 326), (143, .aload_n 0), (144, .getfield 82), (147, .aload_n 1), (148, .getfield 271), (151, .aload_n 0), (152, .getfield 51), (155, .iload 7), (157, .iaload), (158, .iaload), (159, .i2l), (160, .invokevirtual 326), (163, .iinc 7 1), (166, .goto (-59)), (169, .aload_n 1), (170, .getfield 345), (173, .iload_n 2), (174, .iaload), (175, .aload_n 0), (176, .getfield 348), (179, .isub), (180, .istore 7), (182, .aload_n 0), (183, .getfield 85), (186, .ldc2_w 377), (189, .iload 7), (191, .ifCond .ge 13), (194, .bipush (-2)), (196, .iload 7), (198, .imul), (199, .iconst 1), (200, .isub), (201, .goto 7), (204, .iconst 2), (205, .iload 7), (207, .imul), (208, .i2l), (209, .lmul), (210, .iload 4), (212, .i2l), (213, .ladd), (214, .invokevirtual 326), (217, .aload_n 0), (218, .aload_n 1), (219, .getfield 345), (222, .iload_n 2), (223, .iaload), (224, .iload 4), (226, .ifCond .ne 7), (229, .iload_n 3), (230, .goto 15), (233, .iload 4), (235, .iconst 1), (236, .if_icmp .ne 7), (239, .iconst 0), (240, .goto 5), (243, .iload_n 3), (244, .ineg), (245, .iadd), (246, .putfield 348), (249, .return_)]
set_option maxRecDepth 100000 in
theorem kX14_span : chk cX14_span tX14_span = true := by decide +kernel
theorem vX14_span_374 : ∀ w ∈ ([.methodLink RX14 374 yX14_list, .instanceMethod yX14_list, .selects yX14_list.cls yX14_list yX14_list, .initialized yX14_list.cls, .code yX14_list cX14_list 3 (some .int)] : List Cond), w ∈ lw_good := List.forall_mem_cons.mpr ⟨mgd 2303 (by decide +kernel) (by decide +kernel), List.forall_mem_cons.mpr ⟨mgd 2305 (by decide +kernel) (by decide +kernel), List.forall_mem_cons.mpr ⟨mgd 93 (by decide +kernel) (by decide +kernel), List.forall_mem_cons.mpr ⟨mgd 136 (by decide +kernel) (by decide +kernel), List.forall_mem_cons.mpr ⟨mgd 2306 (by decide +kernel) (by decide +kernel), fun _ h => absurd h List.not_mem_nil⟩⟩⟩⟩⟩
theorem vX14_span_326 : ∀ w ∈ ([.methodLink RX14 326 yX13_number, .instanceMethod yX13_number, .selects yX13_number.cls yX13_number yX13_number, .initialized yX13_number.cls, .code yX13_number cX13_number 5 none] : List Cond), w ∈ lw_good := List.forall_mem_cons.mpr ⟨mgd 2254 (by decide +kernel) (by decide +kernel), List.forall_mem_cons.mpr ⟨mgd 2255 (by decide +kernel) (by decide +kernel), List.forall_mem_cons.mpr ⟨mgd 2256 (by decide +kernel) (by decide +kernel), List.forall_mem_cons.mpr ⟨mgd 137 (by decide +kernel) (by decide +kernel), List.forall_mem_cons.mpr ⟨mgd 2257 (by decide +kernel) (by decide +kernel), fun _ h => absurd h List.not_mem_nil⟩⟩⟩⟩⟩
theorem vX14_span_278 : ∀ w ∈ ([.methodLink RX14 278 yX12_tops, .instanceMethod yX12_tops, .selects yX12_tops.cls yX12_tops yX12_tops, .initialized yX12_tops.cls, .code yX12_tops cX12_tops 9 (some .int)] : List Cond), w ∈ lw_good := List.forall_mem_cons.mpr ⟨mgd 2142 (by decide +kernel) (by decide +kernel), List.forall_mem_cons.mpr ⟨mgd 2143 (by decide +kernel) (by decide +kernel), List.forall_mem_cons.mpr ⟨mgd 2144 (by decide +kernel) (by decide +kernel), List.forall_mem_cons.mpr ⟨mgd 138 (by decide +kernel) (by decide +kernel), List.forall_mem_cons.mpr ⟨mgd 2145 (by decide +kernel) (by decide +kernel), fun _ h => absurd h List.not_mem_nil⟩⟩⟩⟩⟩
set_option maxRecDepth 100000 in
set_option maxHeartbeats 2000000 in
theorem c_rspn (l : Launch) : ∀ (t : Nat) (g : Nat) (f : Nat) (m : Nat) (kd : Nat) (la : Int32) (S0 : MM) (F : Nat → Nat × Nat) (z : Nat → Nat) (Y : Nat → Nat → Nat) (R : Rb) (kz : Nat → Nat) (V : Nat → List Int32) (M : List Nat) (x p e0 : Nat) (sb : Option Nat), Ct l yX14_span cX14_span 8 none 2 51 (sp_rspn t g f m kd la S0 F z Y R kz V M x p e0 sb) := by
  intro t g f m kd la S0 F z Y R kz V M x p e0 sb
  refine Ct.of (fX14, nX14, aX14, iX14, lX14, [(374, 0, 2, 1, T_rlst), (326, 0, 2, 0, T_onu), (278, 0, 4, 1, T_rtp)], qX14, gX14, []) false tX14_span (fun _ S => look [(107, ([0,1,2,3,4,6,7], I_sp1 t g f m kd p F z Y R kz V M (exI x) sb S0)), (169, ([0,1,2,3,4], I_sp2 t g f m kd p F z Y R kz V M (exI x) sb S0)), (217, ([0,1,2,3,4], I_sp3 t g f m kd p e0 F z Y R kz V M (exI x) sb S0))]) (by decide) (by decide) kX14_span ⟨_, _, rfl⟩ fX14_ok nX14_ok aX14_ok iX14_ok lX14_ok (fun p e R s m args below meth c Q D cy z r A C hR1 hR2 => List.forall_mem_cons.mpr ⟨cOK_use (fun _ _ _ _ _ _ _ _ h => let ⟨sp, h1, h2, h3⟩ := u_rlst l _ _ _ _ _ _ _ _ h; ⟨sp, cOK_V C h1 vX14_span_374 ⟨by decide, by decide, by decide +kernel⟩ ⟨by rw [hR1]; decide, by rw [hR2]; decide⟩ (k := 15) (T := TX14) (N := 52) rfl (by decide) h2, h3⟩), List.forall_mem_cons.mpr ⟨cOK_use (fun _ _ _ _ _ _ _ _ h => let ⟨sp, h1, h2, h3⟩ := u_onu l _ _ _ _ _ _ _ _ h; ⟨sp, cOK_V C h1 vX14_span_326 ⟨by decide, by decide, by decide +kernel⟩ ⟨by rw [hR1]; decide, by rw [hR2]; decide⟩ (k := 14) (T := TX13) (N := 2) rfl (by decide) h2, h3⟩), List.forall_mem_cons.mpr ⟨cOK_use (fun _ _ _ _ _ _ _ _ h => let ⟨sp, h1, h2, h3⟩ := u_rtp l _ _ _ _ _ _ _ _ h; ⟨sp, cOK_V C h1 vX14_span_278 ⟨by decide, by decide, by decide +kernel⟩ ⟨by rw [hR1]; decide, by rw [hR2]; decide⟩ (k := 13) (T := TX12) (N := 27) rfl (by decide) h2, h3⟩), fun _ h => absurd h List.not_mem_nil⟩⟩⟩) qX14_ok gX14_ok rfl ?_ ?_
  · rintro _ S ⟨rfl, hp⟩
    refine ⟨Nat.le_of_ble_eq_true rfl, 300, ?_⟩
    show (isO S 15 t ∧ (isO S 13 g ∧ (isO S 13 g ∧ (pa (mR S 1306 g) fun a_1 => ∃ v_2 : Int32, (isO S 17 a_1 ∧ inR S a_1 (nI f) ∧ v_2 = eI S a_1 (nI f).toNatClampNeg ∨ a_1 = (mQ S).1 ∧ vp_in (nI f) 16 ∧ v_2 = mRem (nI f).toNatClampNeg) ∧ (pa (mR S 1303 g) fun a_3 => ∃ v_4 : Int32, (isO S 17 a_3 ∧ inR S a_3 v_2 ∧ v_4 = eI S a_3 v_2.toNatClampNeg ∨ a_3 = (mQ S).1 ∧ vp_in v_2 16 ∧ v_4 = mRem v_2.toNatClampNeg) ∧ (0 = 0 ∧ (∃ (a_5 : Nat), v_4 = nI a_5 ∧ (∃ (F_6 : Nat → Nat × Nat) (z_7 : Nat → Nat) (Y_8 : Nat → Nat → Nat) (R_9 : Rb) (kz_10 : Nat → Nat) (L_11 : List Nat), (MD S F_6 t z_7 Y_8 R_9 kz_10 ∧ lsP S t z_7 L_11 ∧ a_5 < 256 ∧ L_11.length ≤ 256) ∧ 0 ≤ 0 ∧ 0 ≤ 0 ∧ (∀ (x_13 : Int32) (S_12 : MM), (∃ j, x_13 = nI j ∧ j < (lsX L_11 a_5).length ∧ (lsX L_11 a_5).getD j 0 = a_5) ∧ (lsQ S S_12 F_6 t z_7 Y_8 R_9 kz_10 L_11 a_5) → (0 = 0 ∧ ((pa (mR S 1526 t) fun a_14 => (∃ (cb_15 : Nat) (B_16 : List Nat) (n_17 : Nat), (Ou S_12 a_14 cb_15 B_16 ∧ x_13.toInt64 = lN n_17 ∧ n_17 < 2 ^ 35 ∧ B_16.length + 5 ≤ 1000000) ∧ 0 ≤ 0 ∧ 0 ≤ 0 ∧ (∀ (S_18 : MM), (ouP S_12 S_18 a_14 cb_15 (B_16 ++ vbN 5 n_17)) → (isO S_18 15 t ∧ (isO S_18 13 g ∧ (pa (mR S_18 1307 g) fun a_19 => ∃ v_20 : Int32, (isO S_18 17 a_19 ∧ inR S_18 a_19 (nI f) ∧ v_20 = eI S_18 a_19 (nI f).toNatClampNeg ∨ a_19 = (mQ S_18).1 ∧ vp_in (nI f) 16 ∧ v_20 = mRem (nI f).toNatClampNeg) ∧ (0 = 0 ∧ ((pa (mR S_18 1526 t) fun a_21 => (∃ (cb_22 : Nat) (B_23 : List Nat) (n_24 : Nat), (Ou S_18 a_21 cb_22 B_23 ∧ v_20.toInt64 = lN n_24 ∧ n_24 < 2 ^ 35 ∧ B_23.length + 5 ≤ 1000000) ∧ 0 ≤ 0 ∧ 0 ≤ 0 ∧ (∀ (S_25 : MM), (ouP S_18 S_25 a_21 cb_22 (B_23 ++ vbN 5 n_24)) → (isO S_25 15 t ∧ (0 = 0 ∧ ((pa (mR S_25 1526 t) fun a_26 => (∃ (cb_27 : Nat) (B_28 : List Nat) (n_29 : Nat), (Ou S_25 a_26 cb_27 B_28 ∧ ((nI m).toInt64) = lN n_29 ∧ n_29 < 2 ^ 35 ∧ B_28.length + 5 ≤ 1000000) ∧ 0 ≤ 0 ∧ 0 ≤ 0 ∧ (∀ (S_30 : MM), (ouP S_25 S_30 a_26 cb_27 (B_28 ++ vbN 5 n_29)) → (isO S_30 13 g ∧ (isO S_30 15 t ∧ (0 = 0 ∧ ((pa (mR S_30 1308 g) fun a_31 => ((pa (mR S_30 1516 t) fun a_32 => (∃ (o_33 : Nat), (16 : Int32) * (nI f) = nI o_33 ∧ (∃ (F_34 : Nat → Nat × Nat) (i_35 : Nat) (y_36 : Nat → Nat) (G_37 : Gr) (T_38 : Tr) (W_39 : Nat → Nat) (L_40 : List Nat), (g = y_36 0 ∧ RG S_30 F_34 i_35 y_36 G_37 T_38 ∧ StR S_30 a_31 o_33 W_39 ∧ (∀ s, W_39 s ≤ G_37.cn s) ∧ isO S_30 17 a_32 ∧ mN S_30 a_32 = 16 ∧ (F_34 a_32).1 ≠ i_35 ∧ L_40.Pairwise (fun p q => G_37.key p < G_37.key q) ∧ (∀ k, k ∈ L_40 ↔ G_37.Top W_39 k)) ∧ 0 ≤ 0 ∧ 0 ≤ 0 ∧ (∀ (S_41 : MM), (tpQ S_30 S_41 a_32 L_40) → ((¬ (nI L_40.length) = (1 : Int32) → (isO S_41 15 t ∧ (0 = 0 ∧ ((pa (mR S_41 1527 t) fun a_42 => (∃ (cb_43 : Nat) (B_44 : List Nat) (n_45 : Nat), (Ou S_41 a_42 cb_43 B_44 ∧ (((1 : Int32) + (nI L_40.length)).toInt64) = lN n_45 ∧ n_45 < 2 ^ 35 ∧ B_44.length + 5 ≤ 1000000) ∧ 0 ≤ 0 ∧ 0 ≤ 0 ∧ (∀ (S_46 : MM), (ouP S_41 S_46 a_42 cb_43 (B_44 ++ vbN 5 n_45)) → (∃ k1, I_sp1 t g f m kd p F z Y R kz V M (exI x) sb S0 k1 [(0, .inr (.inr (some t))), (1, .inr (.inr (some g))), (2, .inl (nI f)), (3, .inl (nI m)), (4, .inl (nI kd)), (6, .inl (nI L_40.length)), (7, .inl (0 : Int32))] [] S_46 0 0)))))))) ∧ ((nI L_40.length) = (1 : Int32) → (isO S_41 15 t ∧ (pa (mR S_41 1516 t) fun a_47 => ∃ v_48 : Int32, (isO S_41 17 a_47 ∧ inR S_41 a_47 (0 : Int32) ∧ v_48 = eI S_41 a_47 (0 : Int32).toNatClampNeg ∨ a_47 = (mQ S_41).1 ∧ vp_in (0 : Int32) 16 ∧ v_48 = mRem (0 : Int32).toNatClampNeg) ∧ ((¬ v_48 = la → (isO S_41 15 t ∧ (0 = 0 ∧ ((pa (mR S_41 1527 t) fun a_49 => (∃ (cb_50 : Nat) (B_51 : List Nat) (n_52 : Nat), (Ou S_41 a_49 cb_50 B_51 ∧ (((1 : Int32) + (nI L_40.length)).toInt64) = lN n_52 ∧ n_52 < 2 ^ 35 ∧ B_51.length + 5 ≤ 1000000) ∧ 0 ≤ 0 ∧ 0 ≤ 0 ∧ (∀ (S_53 : MM), (ouP S_41 S_53 a_49 cb_50 (B_51 ++ vbN 5 n_52)) → (∃ k1, I_sp1 t g f m kd p F z Y R kz V M (exI x) sb S0 k1 [(0, .inr (.inr (some t))), (1, .inr (.inr (some g))), (2, .inl (nI f)), (3, .inl (nI m)), (4, .inl (nI kd)), (6, .inl (nI L_40.length)), (7, .inl (0 : Int32))] [] S_53 0 0)))))))) ∧ (v_48 = la → (isO S_41 15 t ∧ (0 = 0 ∧ ((pa (mR S_41 1527 t) fun a_54 => (∃ (cb_55 : Nat) (B_56 : List Nat) (n_57 : Nat), (Ou S_41 a_54 cb_55 B_56 ∧ (0 : Int64) = lN n_57 ∧ n_57 < 2 ^ 35 ∧ B_56.length + 5 ≤ 1000000) ∧ 0 ≤ 0 ∧ 0 ≤ 0 ∧ (∀ (S_58 : MM), (ouP S_41 S_58 a_54 cb_55 (B_56 ++ vbN 5 n_57)) → (∃ k1, I_sp2 t g f m kd p F z Y R kz V M (exI x) sb S0 k1 [(0, .inr (.inr (some t))), (1, .inr (.inr (some g))), (2, .inl (nI f)), (3, .inl (nI m)), (4, .inl (nI kd))] [] S_58 0 0)))))))))))))))))))))))))))))))))))))))))))))))))))
    obtain ⟨hW, hA, hp4, rfl, hf, hl, hm8, hkd, hx, hla, hsb, hE, v1, v2, v3⟩ := hp
    have hM := hW.1
    have g := (hM 2 p hp4).2.1
    have hnm := g.nm
    have s1 := g.ok.sl1 f hf
    have t1 := g.ok.ag1 _ s1
    have u1 := nu_le g.ok hf
    have p16 := pr16 g.ok hf
    have hLl := hW.ml
    refine ⟨(hM 0).1, (g 0).1, (g 0).1, g.g6 hf (g.g3 s1 ⟨rfl, _, rfl, F, z, Y, R, kz, M, ⟨hM, hW.2.2.1, t1, hLl⟩, Nat.le_refl _, Nat.le_refl _, fun v S12 hq => ?_⟩)⟩
    obtain ⟨⟨j, rfl, hj1, hj2⟩, hq⟩ := hq
    have hj := lst_ix hW.2.2.1.2.2.1 hj1 hj2
    subst hj
    have hix : M.idxOf ((R.Q.G p).ag ((R.Q.G p).ev f).sl) ≤ 256 := Nat.le_trans List.idxOf_le_length hLl
    have b1 := vbs_le2 (v := M.idxOf ((R.Q.G p).ag ((R.Q.G p).ev f).sl)) (by omega)
    have b2 := vbs_le2 (v := ((R.Q.G p).ev f).nu) (by omega)
    have W12 := hW.lst hq
    refine ⟨rfl, pa_i (hM 10 26 (Or.inr (by decide))).1 ⟨z (70 + 26), _, M.idxOf ((R.Q.G p).ag ((R.Q.G p).ev f).sl), ⟨W12.2.1 1 (by decide), nI_l (by omega), by omega, by rw [vB_len]; omega⟩, Nat.le_refl _, Nat.le_refl _, fun S18 q18 => ?_⟩⟩
    have W18 := W12.num (k0 := 1) (by decide) (by omega) q18
    have M18 := W18.1
    have g18 := (M18 2 p hp4).2.1
    refine ⟨(M18 0).1, (g18 0).1, g18.g7 hf ⟨rfl, pa_i (M18 10 26 (Or.inr (by decide))).1 ⟨z (70 + 26), _, ((R.Q.G p).ev f).nu, ⟨W18.ou (k0 := 1) (by decide), nI_l (by omega), by omega, by rw [vB_len, List.length_append]; omega⟩, Nat.le_refl _, Nat.le_refl _, fun S25 q25 => ?_⟩⟩⟩
    have W25 := W18.numX (k0 := 1) (by decide) (by omega) q25
    have M25 := W25.1
    refine ⟨(M25 0).1, rfl, pa_i (M25 10 26 (Or.inr (by decide))).1 ⟨z (70 + 26), _, m, ⟨W25.ou (k0 := 1) (by decide), nI_l (by omega), by omega, by rw [vB_len, List.length_append, List.length_append]; omega⟩, Nat.le_refl _, Nat.le_refl _, fun S30 q30 => ?_⟩⟩
    have W30 := W25.numX (k0 := 1) (by decide) (by omega) q30
    rw [List.append_assoc, List.append_assoc] at W30
    have W30 : wpS S0 S30 F t z Y R kz (csA (R.Q.G p) V M f m) (madd M (agI (R.Q.G p) f)) (exI x) := W30
    have M30 := W30.1
    have g30 := (M30 2 p hp4).2.1
    refine ⟨(g30 0).1, (M30 0).1, rfl, pa_i g30.r8.1 (pa_i (M30 1 16 (by decide)).1 ⟨16 * f, nI_mul16, F, 101 + p, Y p, R.Q.G p, R.Q.T p, _, _, M30.tpre hp4 hf, Nat.le_refl _, Nat.le_refl _, fun S41 hT => ?_⟩)⟩
    obtain ⟨fn, rfl, hfn⟩ := hT
    have W41 := W30.tps fn
    have M41 := W41.1
    have r16 := M41 1 16 (by decide)
    have e16 : ∀ i, i < ((R.Q.G p).ev f).pr.length → eI (rI S30 (z 16) fn) (z 16) i = nI (((R.Q.G p).ev f).pr.getD i 0) := fun i hi => by
      rw [eI_rI, if_pos rfl]; exact hfn i hi
    have ln2 : (vB (csA (R.Q.G p) V M f m 2)).length + 5 ≤ 1000000 := by
      rw [vB_len]
      show (V 2).length + 5 ≤ 1000000
      omega
    have e1n : ((1 : Int32) + nI ((R.Q.G p).ev f).pr.length).toInt64 = lN (1 + ((R.Q.G p).ev f).pr.length) := by
      rw [show (1 : Int32) + nI ((R.Q.G p).ev f).pr.length = nI (1 + ((R.Q.G p).ev f).pr.length) from nI_add 1 _]
      exact nI_l (by omega)
    have goA : ¬ onP (R.Q.G p) f sb → ∀ S46, ouP (rI S30 (z 16) fn) S46 (z 27) (z (70 + 27)) (vB (csA (R.Q.G p) V M f m 2) ++ vbN 5 (1 + ((R.Q.G p).ev f).pr.length)) → ∃ k1, I_sp1 t (Y p 0) f m kd p F z Y R kz V M (exI x) sb S0 k1 [(0, .inr (.inr (some t))), (1, .inr (.inr (some (Y p 0)))), (2, .inl (nI f)), (3, .inl (nI m)), (4, .inl (nI kd)), (6, .inl (nI ((R.Q.G p).ev f).pr.length)), (7, .inl (0 : Int32))] [] S46 0 0 := fun hno S46 q => by
      have W46 := W41.num (k0 := 2) (by decide) (by omega) q
      refine ⟨_, 0, rfl, Nat.zero_le _, hno, ?_, Nat.le_refl _, fun i hi => ?_, rfl, rfl, rfl, rfl⟩
      · rw [wpV, List.append_nil]; exact W46
      · rw [ou16 (k0 := 2) M41 (by decide) q.2]; exact e16 i hi
    refine if_ne (a := ((R.Q.G p).ev f).pr.length) (b := 1) (by omega) (by decide) (fun w => ⟨(M41 0).1, rfl, pa_i (M41 10 27 (Or.inr (by decide))).1 ⟨z (70 + 27), _, 1 + ((R.Q.G p).ev f).pr.length, ⟨W41.2.1 2 (by decide), e1n, by omega, ln2⟩, Nat.le_refl _, Nat.le_refl _, goA (fun q => w q.1)⟩⟩) (fun w => ⟨(M41 0).1, rdI (v := nI (((R.Q.G p).ev f).pr.getD 0 0)) r16.1 r16.2.2.1 (show inR _ _ (nI 0) from inRn (N := 16) r16.2.2.2 (by decide) (by decide)) (e16 0 (by omega)) ?_⟩)
    have hpm : ((R.Q.G p).ev f).pr.getD 0 0 < (R.Q.G p).n := by
      have := g.ok.pr1 f hf (((R.Q.G p).ev f).pr.getD 0 0) (by rw [List.getD_eq_getElem?_getD, List.getElem?_eq_getElem (by omega)]; exact List.getElem_mem _)
      omega
    have hst := st_eq (sb := sb) (a := ((R.Q.G p).ev f).pr.getD 0 0) (by omega) (fun q e => by have := hsb q e; omega)
    rw [hla]
    refine ⟨fun q => ⟨(M41 0).1, rfl, pa_i (M41 10 27 (Or.inr (by decide))).1 ⟨z (70 + 27), _, 1 + ((R.Q.G p).ev f).pr.length, ⟨W41.2.1 2 (by decide), e1n, by omega, ln2⟩, Nat.le_refl _, Nat.le_refl _, goA (fun e => q (hst.2 e.2))⟩⟩, fun q => ⟨(M41 0).1, rfl, pa_i (M41 10 27 (Or.inr (by decide))).1 ⟨z (70 + 27), _, 0, ⟨W41.2.1 2 (by decide), rfl, by decide, ln2⟩, Nat.le_refl _, Nat.le_refl _, fun S58 q58 => ?_⟩⟩⟩
    have W58 := W41.num (k0 := 2) (by decide) (by decide) q58
    have hon : ((R.Q.G p).ev f).pr.length = 1 ∧ sb = some (((R.Q.G p).ev f).pr.getD 0 0) := ⟨w, hst.1 q⟩
    refine ⟨50, rfl, ?_, rfl, rfl, rfl, rfl⟩
    unfold csP wprV wprM
    rw [if_pos hon, if_pos hon]
    exact W58
  · intro av S hpre pc I hI k lo st S1 cs sl h
    obtain ⟨rfl, hp⟩ := hpre
    have hm := look_in hI
    simp only [List.mem_cons, List.not_mem_nil, or_false] at hm
    rcases hm with hm | hm | hm
    · cases hm
      obtain ⟨j, rfl, hj, hno, hW, hwl, ht16, rfl, rfl, rfl, rfl⟩ := h
      refine ⟨300, ?_⟩
      show (((nI ((R.Q.G p).ev f).pr.length) ≤ (nI j) → (∃ k1, k1 < (100 + (((R.Q.G p).ev f).pr.length - j)) ∧ I_sp2 t g f m kd p F z Y R kz V M (exI x) sb S0 k1 [(0, .inr (.inr (some t))), (1, .inr (.inr (some g))), (2, .inl (nI f)), (3, .inl (nI m)), (4, .inl (nI kd))] [] S1 0 0)) ∧ (¬ (nI ((R.Q.G p).ev f).pr.length) ≤ (nI j) → (isO S1 15 t ∧ (isO S1 13 g ∧ (isO S1 13 g ∧ (isO S1 15 t ∧ (pa (mR S1 1516 t) fun a_1 => ∃ v_2 : Int32, (isO S1 17 a_1 ∧ inR S1 a_1 (nI j) ∧ v_2 = eI S1 a_1 (nI j).toNatClampNeg ∨ a_1 = (mQ S1).1 ∧ vp_in (nI j) 16 ∧ v_2 = mRem (nI j).toNatClampNeg) ∧ (pa (mR S1 1306 g) fun a_3 => ∃ v_4 : Int32, (isO S1 17 a_3 ∧ inR S1 a_3 v_2 ∧ v_4 = eI S1 a_3 v_2.toNatClampNeg ∨ a_3 = (mQ S1).1 ∧ vp_in v_2 16 ∧ v_4 = mRem v_2.toNatClampNeg) ∧ (pa (mR S1 1303 g) fun a_5 => ∃ v_6 : Int32, (isO S1 17 a_5 ∧ inR S1 a_5 v_4 ∧ v_6 = eI S1 a_5 v_4.toNatClampNeg ∨ a_5 = (mQ S1).1 ∧ vp_in v_4 16 ∧ v_6 = mRem v_4.toNatClampNeg) ∧ (0 = 0 ∧ (∃ (a_7 : Nat), v_6 = nI a_7 ∧ (∃ (F_8 : Nat → Nat × Nat) (z_9 : Nat → Nat) (Y_10 : Nat → Nat → Nat) (R_11 : Rb) (kz_12 : Nat → Nat) (L_13 : List Nat), (MD S1 F_8 t z_9 Y_10 R_11 kz_12 ∧ lsP S1 t z_9 L_13 ∧ a_7 < 256 ∧ L_13.length ≤ 256) ∧ 0 ≤ 0 ∧ 0 ≤ 0 ∧ (∀ (x_15 : Int32) (S_14 : MM), (∃ j, x_15 = nI j ∧ j < (lsX L_13 a_7).length ∧ (lsX L_13 a_7).getD j 0 = a_7) ∧ (lsQ S1 S_14 F_8 t z_9 Y_10 R_11 kz_12 L_13 a_7) → (0 = 0 ∧ ((pa (mR S1 1527 t) fun a_16 => (∃ (cb_17 : Nat) (B_18 : List Nat) (n_19 : Nat), (Ou S_14 a_16 cb_17 B_18 ∧ x_15.toInt64 = lN n_19 ∧ n_19 < 2 ^ 35 ∧ B_18.length + 5 ≤ 1000000) ∧ 0 ≤ 0 ∧ 0 ≤ 0 ∧ (∀ (S_20 : MM), (ouP S_14 S_20 a_16 cb_17 (B_18 ++ vbN 5 n_19)) → (isO S_20 15 t ∧ (isO S_20 13 g ∧ (isO S_20 15 t ∧ (pa (mR S_20 1516 t) fun a_21 => ∃ v_22 : Int32, (isO S_20 17 a_21 ∧ inR S_20 a_21 (nI j) ∧ v_22 = eI S_20 a_21 (nI j).toNatClampNeg ∨ a_21 = (mQ S_20).1 ∧ vp_in (nI j) 16 ∧ v_22 = mRem (nI j).toNatClampNeg) ∧ (pa (mR S_20 1307 g) fun a_23 => ∃ v_24 : Int32, (isO S_20 17 a_23 ∧ inR S_20 a_23 v_22 ∧ v_24 = eI S_20 a_23 v_22.toNatClampNeg ∨ a_23 = (mQ S_20).1 ∧ vp_in v_22 16 ∧ v_24 = mRem v_22.toNatClampNeg) ∧ (0 = 0 ∧ ((pa (mR S_20 1527 t) fun a_25 => (∃ (cb_26 : Nat) (B_27 : List Nat) (n_28 : Nat), (Ou S_20 a_25 cb_26 B_27 ∧ v_24.toInt64 = lN n_28 ∧ n_28 < 2 ^ 35 ∧ B_27.length + 5 ≤ 1000000) ∧ 0 ≤ 0 ∧ 0 ≤ 0 ∧ (∀ (S_29 : MM), (ouP S_20 S_29 a_25 cb_26 (B_27 ++ vbN 5 n_28)) → (∃ k1, k1 < (100 + (((R.Q.G p).ev f).pr.length - j)) ∧ I_sp1 t g f m kd p F z Y R kz V M (exI x) sb S0 k1 [(0, .inr (.inr (some t))), (1, .inr (.inr (some g))), (2, .inl (nI f)), (3, .inl (nI m)), (4, .inl (nI kd)), (6, .inl (nI ((R.Q.G p).ev f).pr.length)), (7, .inl ((nI j) + (1 : Int32)))] [] S_29 0 0)))))))))))))))))))))))))))))
      obtain ⟨hW0, hA, hp4, rfl, hf, hl, hm8, hkd, hx, hla, hsb, hE, v1, v2, v3⟩ := hp
      have hM := hW.1
      have g := (hM 2 p hp4).2.1
      have hnm := g.nm
      have p16 := pr16 g.ok hf
      have r16 := hM 1 16 (by decide)
      have b0 := vbs_le2 (v := 1 + ((R.Q.G p).ev f).pr.length) (by omega)
      refine if_le (by omega) (by omega) (fun w => ?_) (fun w => ?_)
      · have hjl : j = ((R.Q.G p).ev f).pr.length := by omega
        subst hjl
        refine ⟨50, by omega, rfl, ?_, rfl, rfl, rfl, rfl⟩
        have e2 : wprM (R.Q.G p) (madd M (agI (R.Q.G p) f)) f sb = wpM (R.Q.G p) (madd M (agI (R.Q.G p) f)) ((R.Q.G p).ev f).pr ((R.Q.G p).ev f).pr.length := if_neg hno
        unfold csP
        rw [wprV_no hno, e2]
        exact hW
      · have hq : ((R.Q.G p).ev f).pr.getD j 0 < (R.Q.G p).n := by
          have := g.ok.pr1 f hf (((R.Q.G p).ev f).pr.getD j 0) (by rw [List.getD_eq_getElem?_getD, List.getElem?_eq_getElem w]; exact List.getElem_mem _)
          omega
        have s1 := g.ok.sl1 _ hq
        have t1 := g.ok.ag1 _ s1
        have u1 := nu_le g.ok hq
        have hLl := hW.ml
        refine ⟨(hM 0).1, (g 0).1, (g 0).1, (hM 0).1, rdI (v := nI (((R.Q.G p).ev f).pr.getD j 0)) r16.1 r16.2.2.1 (inRn (N := 16) r16.2.2.2 (by omega) (by decide)) (by rw [nI_clamp (by omega)]; exact ht16 j w) (g.g6 hq (g.g3 s1 ⟨rfl, _, rfl, F, z, Y, R, kz, _, ⟨hM, hW.2.2.1, t1, hLl⟩, Nat.le_refl _, Nat.le_refl _, fun v S14 hq9 => ?_⟩))⟩
        obtain ⟨⟨i, rfl, hj1, hj2⟩, hq9⟩ := hq9
        have hi := lst_ix hW.2.2.1.2.2.1 hj1 hj2
        subst hi
        have W14 := hW.lst hq9
        have M14 := W14.1
        have e14 := ls16 hM hq9.2.2.1
        generalize hMM : wpM (R.Q.G p) (madd M (agI (R.Q.G p) f)) ((R.Q.G p).ev f).pr j = MM9 at *
        have hix : MM9.idxOf ((R.Q.G p).ag ((R.Q.G p).ev (((R.Q.G p).ev f).pr.getD j 0)).sl) ≤ 256 := Nat.le_trans List.idxOf_le_length hLl
        have b1 := vbs_le2 (v := MM9.idxOf ((R.Q.G p).ag ((R.Q.G p).ev (((R.Q.G p).ev f).pr.getD j 0)).sl)) (by omega)
        have b2 := vbs_le2 (v := ((R.Q.G p).ev (((R.Q.G p).ev f).pr.getD j 0)).nu) (by omega)
        have ln : (csA (R.Q.G p) V M f m 2).length = (V 2).length := rfl
        refine ⟨rfl, pa_i (hM 10 27 (Or.inr (by decide))).1 ⟨z (70 + 27), _, MM9.idxOf ((R.Q.G p).ag ((R.Q.G p).ev (((R.Q.G p).ev f).pr.getD j 0)).sl), ⟨W14.ou (k0 := 2) (by decide), nI_l (by omega), by omega, by rw [vB_len, List.length_append, List.length_append]; omega⟩, Nat.le_refl _, Nat.le_refl _, fun S20 q20 => ?_⟩⟩
        have W20 := W14.numX (k0 := 2) (by decide) (by omega) q20
        have M20 := W20.1
        have g20 := (M20 2 p hp4).2.1
        have e20 := ou16 (k0 := 2) M14 (by decide) q20.2
        have r20 := M20 1 16 (by decide)
        refine ⟨(M20 0).1, (g20 0).1, (M20 0).1, rdI (v := nI (((R.Q.G p).ev f).pr.getD j 0)) r20.1 r20.2.2.1 (inRn (N := 16) r20.2.2.2 (by omega) (by decide)) (by rw [nI_clamp (by omega), e20, e14]; exact ht16 j w) (g20.g7 hq ⟨rfl, pa_i (M20 10 27 (Or.inr (by decide))).1 ⟨z (70 + 27), _, ((R.Q.G p).ev (((R.Q.G p).ev f).pr.getD j 0)).nu, ⟨W20.ou (k0 := 2) (by decide), nI_l (by omega), by omega, by rw [vB_len, List.length_append, List.length_append, List.length_append]; omega⟩, Nat.le_refl _, Nat.le_refl _, fun S29 q29 => ?_⟩⟩)⟩
        have W29 := W20.numX (k0 := 2) (by decide) (by omega) q29
        refine ⟨100 + (((R.Q.G p).ev f).pr.length - (j + 1)), by omega, j + 1, rfl, w, hno, ?_, ?_, fun i hi => ?_, by rw [nI_1], rfl, rfl, rfl⟩
        · rw [wpV, wpM, hMM]
          rw [List.append_assoc, List.append_assoc, List.append_assoc] at W29
          exact W29
        · rw [wpV, List.length_append, List.length_append, hMM]
          show _ + ((vbs 4 (nI (MM9.idxOf ((R.Q.G p).ag ((R.Q.G p).ev (((R.Q.G p).ev f).pr.getD j 0)).sl)))).length + _) ≤ _
          omega
        · rw [ou16 (k0 := 2) M20 (by decide) q29.2, e20, e14]; exact ht16 i hi
    · cases hm
      obtain ⟨rfl, hW, rfl, rfl, rfl, rfl⟩ := h
      refine ⟨300, ?_⟩
      show (isO S1 13 g ∧ (pa (mR S1 1310 g) fun a_1 => ∃ v_2 : Int32, (isO S1 17 a_1 ∧ inR S1 a_1 (nI f) ∧ v_2 = eI S1 a_1 (nI f).toNatClampNeg ∨ a_1 = (mQ S1).1 ∧ vp_in (nI f) 16 ∧ v_2 = mRem (nI f).toNatClampNeg) ∧ (isO S1 15 t ∧ (isO S1 15 t ∧ ((0 ≤ (v_2 - (mI S1 1533 t)) → (0 = 0 ∧ ((pa (mR S1 1528 t) fun a_3 => (∃ (cb_4 : Nat) (B_5 : List Nat) (n_6 : Nat), (Ou S1 a_3 cb_4 B_5 ∧ (((3 : Int64) * (((2 : Int32) * (v_2 - (mI S1 1533 t))).toInt64)) + ((nI kd).toInt64)) = lN n_6 ∧ n_6 < 2 ^ 35 ∧ B_5.length + 5 ≤ 1000000) ∧ 0 ≤ 0 ∧ 0 ≤ 0 ∧ (∀ (S_7 : MM), (ouP S1 S_7 a_3 cb_4 (B_5 ++ vbN 5 n_6)) → (∃ k1, k1 < 50 ∧ I_sp3 t g f m kd p e0 F z Y R kz V M (exI x) sb S0 k1 [(0, .inr (.inr (some t))), (1, .inr (.inr (some g))), (2, .inl (nI f)), (3, .inl (nI m)), (4, .inl (nI kd))] [] S_7 0 0))))))) ∧ (¬ 0 ≤ (v_2 - (mI S1 1533 t)) → (0 = 0 ∧ ((pa (mR S1 1528 t) fun a_8 => (∃ (cb_9 : Nat) (B_10 : List Nat) (n_11 : Nat), (Ou S1 a_8 cb_9 B_10 ∧ (((3 : Int64) * ((((-2 : Int32) * (v_2 - (mI S1 1533 t))) - (1 : Int32)).toInt64)) + ((nI kd).toInt64)) = lN n_11 ∧ n_11 < 2 ^ 35 ∧ B_10.length + 5 ≤ 1000000) ∧ 0 ≤ 0 ∧ 0 ≤ 0 ∧ (∀ (S_12 : MM), (ouP S1 S_12 a_8 cb_9 (B_10 ++ vbN 5 n_11)) → (∃ k1, k1 < 50 ∧ I_sp3 t g f m kd p e0 F z Y R kz V M (exI x) sb S0 k1 [(0, .inr (.inr (some t))), (1, .inr (.inr (some g))), (2, .inl (nI f)), (3, .inl (nI m)), (4, .inl (nI kd))] [] S_12 0 0))))))))))))
      obtain ⟨hW0, hA, hp4, rfl, hf, hl, hm8, hkd, hx, hla, hsb, hE, v1, v2, v3⟩ := hp
      have hM := hW.1
      have g := (hM 2 p hp4).2.1
      have hnm := g.nm
      have hGT := (hA p hp4).1
      have i1 := hGT.2.2.2.2.2 f hf
      obtain ⟨-, xf⟩ := g.e9 hGT.2.1 hf
      obtain ⟨n, hn, o1, o2, o3⟩ := op_ex (a := ((R.Q.G p).ev f).ix) (x := x) (kd := kd) (by omega) hx hkd
      have c3 : csP (R.Q.G p) V M f m sb 3 = V 3 := rfl
      have fin : ∀ S7, ouP S1 S7 (z 28) (z (70 + 28)) (vB (csP (R.Q.G p) V M f m sb 3) ++ vbN 5 n) → ∃ k1, k1 < 50 ∧ I_sp3 t (Y p 0) f m kd p e0 F z Y R kz V M (exI x) sb S0 k1 [(0, .inr (.inr (some t))), (1, .inr (.inr (some (Y p 0)))), (2, .inl (nI f)), (3, .inl (nI m)), (4, .inl (nI kd))] [] S7 0 0 := fun S7 q => by
        have W7 := hW.num (k0 := 3) (by decide) (by omega) q
        refine ⟨20, by decide, rfl, ?_, rfl, rfl, rfl, rfl⟩
        rw [← o1] at W7
        exact W7
      have e33 : mI S1 1533 t = exI x := hW.2.2.2.1
      rw [e33]
      refine ⟨(g 0).1, rdI (v := nI ((R.Q.G p).ev f).ix) g.r10.1 g.r10.2.1 (inRn g.r10.2.2 (by omega) (by decide)) xf ⟨(hM 0).1, (hM 0).1, fun q => ⟨rfl, pa_i (hM 10 28 (Or.inr (by decide))).1 ⟨z (70 + 28), _, n, ⟨hW.2.1 3 (by decide), o2 q, by omega, by rw [vB_len, c3]; omega⟩, Nat.le_refl _, Nat.le_refl _, fin⟩⟩, fun q => ⟨rfl, pa_i (hM 10 28 (Or.inr (by decide))).1 ⟨z (70 + 28), _, n, ⟨hW.2.1 3 (by decide), o3 q, by omega, by rw [vB_len, c3]; omega⟩, Nat.le_refl _, Nat.le_refl _, fin⟩⟩⟩⟩
    · cases hm
      obtain ⟨rfl, hW, rfl, rfl, rfl, rfl⟩ := h
      refine ⟨300, ?_⟩
      show (isO S1 13 g ∧ (pa (mR S1 1310 g) fun a_1 => ∃ v_2 : Int32, (isO S1 17 a_1 ∧ inR S1 a_1 (nI f) ∧ v_2 = eI S1 a_1 (nI f).toNatClampNeg ∨ a_1 = (mQ S1).1 ∧ vp_in (nI f) 16 ∧ v_2 = mRem (nI f).toNatClampNeg) ∧ ((¬ (nI kd) = 0 → ((¬ (nI kd) = (1 : Int32) → (True ∧ (isO S1 15 t ∧ (([] : List MV) = [] ∧ mret none (sp_rspn t g f m kd la S0 F z Y R kz V M x p e0 sb) [.inr (.inr (some t)), .inr (.inr (some g)), .inl (nI f), .inl (nI m), .inl (nI kd), .inl la] S none (sI S1 1533 t (v_2 + (-(nI m)))) 0 0)))) ∧ ((nI kd) = (1 : Int32) → (True ∧ (isO S1 15 t ∧ (([] : List MV) = [] ∧ mret none (sp_rspn t g f m kd la S0 F z Y R kz V M x p e0 sb) [.inr (.inr (some t)), .inr (.inr (some g)), .inl (nI f), .inl (nI m), .inl (nI kd), .inl la] S none (sI S1 1533 t (v_2 + (0 : Int32))) 0 0)))))) ∧ ((nI kd) = 0 → (True ∧ (isO S1 15 t ∧ (([] : List MV) = [] ∧ mret none (sp_rspn t g f m kd la S0 F z Y R kz V M x p e0 sb) [.inr (.inr (some t)), .inr (.inr (some g)), .inl (nI f), .inl (nI m), .inl (nI kd), .inl la] S none (sI S1 1533 t (v_2 + (nI m))) 0 0)))))))
      obtain ⟨hW0, hA, hp4, rfl, hf, hl, hm8, hkd, hx, hla, hsb, hE, v1, v2, v3⟩ := hp
      have hM := hW.1
      have g := (hM 2 p hp4).2.1
      have hnm := g.nm
      have hGT := (hA p hp4).1
      have i1 := hGT.2.2.2.2.2 f hf
      obtain ⟨-, xf⟩ := g.e9 hGT.2.1 hf
      have fin : ∀ v, v = csE (R.Q.G p) (some (f, e0, m, kd)) (exI x) → (True ∧ (isO S1 15 t ∧ (([] : List MV) = [] ∧ mret none (sp_rspn t (Y p 0) f m kd la S0 F z Y R kz V M x p e0 sb) [.inr (.inr (some t)), .inr (.inr (some (Y p 0))), .inl (nI f), .inl (nI m), .inl (nI kd), .inl la] S none (sI S1 1533 t v) 0 0))) := fun v e => by
        have W2 := hW.exp v
        rw [e] at W2 ⊢
        exact ⟨trivial, (hM 0).1, rfl, trivial, ⟨rfl, W2⟩, Nat.le_refl _, Nat.le_refl _⟩
      refine ⟨(g 0).1, rdI (v := nI ((R.Q.G p).ev f).ix) g.r10.1 g.r10.2.1 (inRn g.r10.2.2 (by omega) (by decide)) xf ⟨fun q => ⟨fun q1 => fin _ ?_, fun q1 => fin _ ?_⟩, fun q => fin _ ?_⟩⟩
      · have hk2 : kd = 2 := by
          rcases (show kd = 0 ∨ kd = 1 ∨ kd = 2 by omega) with e | e | e
          · exact absurd (by rw [e]; rfl) q
          · exact absurd (by rw [e]; rfl) q1
          · exact e
        subst hk2
        show nI _ + -(nI m) = nI _ + (-1)
        have e := hE.2.2 rfl
        have e2 : nI ((R.Q.G p).ev e0).ix + nI m = nI ((R.Q.G p).ev f).ix + 1 := by rw [nI_add, e, nI_1]
        have e3 : nI ((R.Q.G p).ev f).ix = nI ((R.Q.G p).ev e0).ix + nI m + -1 := by
          rw [e2, Int32.add_assoc, show (1 : Int32) + -1 = 0 from by decide, Int32.add_zero]
        rw [e3, Int32.add_assoc, Int32.add_assoc, Int32.add_comm (-1), ← Int32.add_assoc (nI m), Int32.add_right_neg, Int32.zero_add]
      · have hk1 : kd = 1 := (nI_eq (b := 1) (by omega) (by decide)).1 q1
        subst hk1
        show nI _ + (0 : Int32) = nI _ + 0
        rw [hE.2.1 rfl]
      · have hk0 : kd = 0 := (nI_eq (b := 0) (by omega) (by decide)).1 q
        subst hk0
        show nI _ + nI m = nI _ + 1
        rw [nI_add, nI_1, hE.1 rfl]
theorem u_rspn (l : Launch) : Us l yX14_span cX14_span 8 none 2 51 15 T_rspn := by
  intro Rc Rs av S cs sl K Kx h
  unfold T_rspn at h
  split at h
  · rename_i t_o g_o f_v m_v kd_v la
    obtain ⟨t, rfl, h_1⟩ := pa_of h
    obtain ⟨g, rfl, h_2⟩ := pa_of h_1
    obtain ⟨f, rfl, h_3⟩ := h_2
    obtain ⟨m, rfl, h_4⟩ := h_3
    obtain ⟨kd, rfl, h_5⟩ := h_4
    obtain ⟨S0, F, z, Y, R, kz, V, M, x, p, e0, sb, hp, hc, hs, hk⟩ := h_5
    refine ⟨(sp_rspn t g f m kd la S0 F z Y R kz V M x p e0 sb), c_rspn l t g f m kd la S0 F z Y R kz V M x p e0 sb, fun _ _ h9 => ⟨_, _, h9.1, (h9.2.1.1 0).1⟩, ⟨rfl, hp⟩, hc, hs, fun S' h8 => by
      obtain ⟨-, h8⟩ := h8
      exact hk _ h8, fun _ _ q => q.elim⟩
  · exact h.elim
