/-! ===== The reference reads a text (UTF-8) ===== -/
theorem rw_and {v : Int32} {b : Nat} (h : v &&& 255 = nI b) : v &&& 192 = nI b &&& 192 ∧ v &&& 63 = nI b &&& 63 := by
  rw [← h, Int32.and_assoc, Int32.and_assoc]
  exact ⟨rfl, rfl⟩
theorem shl6 {x b : Nat} (hx : x < 1048576) (hb : b < 256) : nI x <<< ((6 : Int32) &&& 31) ||| nI b &&& 63 = nI (b % 64 + x * 2 ^ 6) := by
  have h1 : nI b &&& 63 = nI (b % 64) := pk_andN (by omega) 6 (by decide)
  have h2 : nI x <<< ((6 : Int32) &&& 31) = nI (x * 2 ^ 6) := pk_shlN _ 6 (by decide) (by omega)
  rw [h1, h2, Int32.or_comm]
  exact or_nI (by omega) (by omega)
/-- the text that was read -/
def txP (S : MM) (t : Nat) (z : Nat → Nat) (L : List Int32) : Prop := mI S 1518 t = nI L.length ∧ L.length ≤ 32768 ∧ ∀ j, j < L.length → eI S (z 17) j = L.getD j 0
/-- bytes in a row, the first n alone -/
def byN (S : MM) (r : Nat) (B : List Nat) : Prop := isO S 16 r ∧ B.length ≤ mN S r ∧ B.length ≤ 32768 ∧ (∀ x, x ∈ B → x < 256) ∧ ∀ j, j < B.length → eI S r j &&& 255 = nI (B.getD j 0)
def txQ (S S' : MM) (F : Nat → Nat × Nat) (t : Nat) (z : Nat → Nat) (Y : Nat → Nat → Nat) (R : Rb) (kz : Nat → Nat) : Prop := MD S' F t z Y R kz ∧ Keep (fun c => c = t ∨ c = z 17) S S' ∧ (∀ f, f ≠ 1518 → mI S' f t = mI S f t) ∧ ∀ f, mR S' f t = mR S f t
def moI (b : Nat) : Int32 := if b < 128 then 0 else if 192 ≤ b ∧ b < 224 then 1 else if 224 ≤ b ∧ b < 240 then 2 else if 240 ≤ b ∧ b < 248 then 3 else -1
def leI (m : Nat) : Int32 := if m = 0 then 0 else if m = 1 then 128 else if m = 2 then 2048 else 65536
/-- what the end of a symbol's walk says -/
def finS (m : Nat) (c : Int32) : Int32 := if m = 0 then c else if isCh c = 0 then -1 else if wOf c = nI m + 1 then c else -1
def rtB (S S1 : MM) (F : Nat → Nat × Nat) (t r n : Nat) (z : Nat → Nat) (Y : Nat → Nat → Nat) (R : Rb) (kz : Nat → Nat) (B : List Nat) (p f : Nat) (L : List Int32) : Prop := txQ S S1 F t z Y R kz ∧ txP S1 t z L ∧ byN S1 r B ∧ L.length ≤ p ∧ n ≤ p + f ∧ syms B = (symsF B f p).map (L ++ ·)
theorem inRl {S : MM} {a i : Nat} (h : i < mN S a) (hi : i < 2147483648) : inR S a (nI i) := fun z => z.elim (fun z => absurd z (nI_pos hi)) (fun z => by rw [nI_clamp hi] at z; omega)
def I_rt0 (t r n : Nat) (F : Nat → Nat × Nat) (z : Nat → Nat) (Y : Nat → Nat → Nat) (R : Rb) (kz : Nat → Nat) (B : List Nat) (S : MM) (k : Nat) : KT := fun lo st S1 cs sl => ∃ p f L, k = 30 * f + 29 ∧ p ≤ n ∧ rtB S S1 F t r n z Y R kz B p f L ∧ lo = [(0, .inr (.inr (some t))), (1, .inr (.inr (some r))), (2, .inl (nI n)), (3, .inl (nI p))] ∧ st = [] ∧ cs = 0 ∧ sl = 0
def I_rtA (t r n : Nat) (F : Nat → Nat × Nat) (z : Nat → Nat) (Y : Nat → Nat → Nat) (R : Rb) (kz : Nat → Nat) (B : List Nat) (S : MM) (k : Nat) : KT := fun lo st S1 cs sl => ∃ p f L, k = 30 * f + 58 ∧ p < n ∧ 128 ≤ B.getD p 0 ∧ ¬ (192 ≤ B.getD p 0 ∧ B.getD p 0 < 224) ∧ rtB S S1 F t r n z Y R kz B p (f + 1) L ∧ lo = [(0, .inr (.inr (some t))), (1, .inr (.inr (some r))), (2, .inl (nI n)), (3, .inl (nI p)), (4, .inl (nI (B.getD p 0)))] ∧ st = [] ∧ cs = 0 ∧ sl = 0
def I_rtB (t r n : Nat) (F : Nat → Nat × Nat) (z : Nat → Nat) (Y : Nat → Nat → Nat) (R : Rb) (kz : Nat → Nat) (B : List Nat) (S : MM) (k : Nat) : KT := fun lo st S1 cs sl => ∃ p f L, k = 30 * f + 57 ∧ p < n ∧ 128 ≤ B.getD p 0 ∧ ¬ (192 ≤ B.getD p 0 ∧ B.getD p 0 < 224) ∧ ¬ (224 ≤ B.getD p 0 ∧ B.getD p 0 < 240) ∧ rtB S S1 F t r n z Y R kz B p (f + 1) L ∧ lo = [(0, .inr (.inr (some t))), (1, .inr (.inr (some r))), (2, .inl (nI n)), (3, .inl (nI p)), (4, .inl (nI (B.getD p 0)))] ∧ st = [] ∧ cs = 0 ∧ sl = 0
def I_rt1 (t r n : Nat) (F : Nat → Nat × Nat) (z : Nat → Nat) (Y : Nat → Nat → Nat) (R : Rb) (kz : Nat → Nat) (B : List Nat) (S : MM) (k : Nat) : KT := fun lo st S1 cs sl => ∃ p f L, k = 30 * f + 56 ∧ p < n ∧ rtB S S1 F t r n z Y R kz B p (f + 1) L ∧ lo = [(0, .inr (.inr (some t))), (1, .inr (.inr (some r))), (2, .inl (nI n)), (3, .inl (nI p)), (4, .inl (nI (B.getD p 0)))] ∧ st = [.inl (moI (B.getD p 0))] ∧ cs = 0 ∧ sl = 0
def I_rt2 (t r n : Nat) (F : Nat → Nat × Nat) (z : Nat → Nat) (Y : Nat → Nat → Nat) (R : Rb) (kz : Nat → Nat) (B : List Nat) (S : MM) (k : Nat) : KT := fun lo st S1 cs sl => ∃ p f L m kk j x, k = 30 * f + 35 + j ∧ kk + j = m + 1 ∧ 1 ≤ kk ∧ m ≤ 3 ∧ p + m < n ∧ x < (if m = 0 then 128 else 2 ^ (6 - m) * 64 ^ (kk - 1)) ∧ (if m = 0 then symAt B p = nI x else symAt B p = symR B p m j kk (nI x)) ∧ rtB S S1 F t r n z Y R kz B p (f + 1) L ∧ lo = [(0, .inr (.inr (some t))), (1, .inr (.inr (some r))), (2, .inl (nI n)), (3, .inl (nI p)), (5, .inl (nI m)), (6, .inl (nI x)), (7, .inl (nI kk))] ∧ st = [] ∧ cs = 0 ∧ sl = 0
def I_rt3 (t r n : Nat) (F : Nat → Nat × Nat) (z : Nat → Nat) (Y : Nat → Nat → Nat) (R : Rb) (kz : Nat → Nat) (B : List Nat) (S : MM) (k : Nat) : KT := fun lo st S1 cs sl => ∃ p f L m x, k = 30 * f + 34 ∧ m ≤ 3 ∧ p + m < n ∧ x < (if m = 0 then 128 else 2 ^ (6 - m) * 64 ^ m) ∧ symAt B p = finS m (nI x) ∧ rtB S S1 F t r n z Y R kz B p (f + 1) L ∧ lo = [(0, .inr (.inr (some t))), (1, .inr (.inr (some r))), (2, .inl (nI n)), (3, .inl (nI p)), (5, .inl (nI m)), (6, .inl (nI x))] ∧ st = [.inl (leI m)] ∧ cs = 0 ∧ sl = 0
def I_rt4 (t r n : Nat) (F : Nat → Nat × Nat) (z : Nat → Nat) (Y : Nat → Nat → Nat) (R : Rb) (kz : Nat → Nat) (B : List Nat) (S : MM) (k : Nat) : KT := fun lo st S1 cs sl => ∃ p f L m x, k = 30 * f + 33 ∧ m ≤ 3 ∧ p + m < n ∧ x < 1114112 ∧ symAt B p = nI x ∧ wN (nI x) = m + 1 ∧ rtB S S1 F t r n z Y R kz B p (f + 1) L ∧ lo = [(0, .inr (.inr (some t))), (1, .inr (.inr (some r))), (2, .inl (nI n)), (3, .inl (nI p)), (5, .inl (nI m)), (6, .inl (nI x))] ∧ st = [] ∧ cs = 0 ∧ sl = 0
def T_rrt : TR := fun Rc Rs av S cs sl K _Kx => match av with
  | [.inr (.inr t_o), .inr (.inr r_o), .inl n_v] => pa t_o fun t => (pa r_o fun r => (∃ (n : Nat), n_v = nI n ∧ (∃ (F : Nat → Nat × Nat) (z : Nat → Nat) (Y : Nat → Nat → Nat) (R : Rb) (kz : Nat → Nat) (B : List Nat), (MD S F t z Y R kz ∧ byN S r B ∧ B.length = n) ∧ cs ≤ Rc ∧ sl ≤ Rs ∧ (∀ (S' : MM), (txQ S S' F t z Y R kz ∧ ∀ L, syms B = some L → txP S' t z L) → K (some (.inl (bI (syms B).isSome))) S' cs sl))))
  | _ => False
def sp_rrt (t : Nat) (r : Nat) (n : Nat) (F : Nat → Nat × Nat) (z : Nat → Nat) (Y : Nat → Nat → Nat) (R : Rb) (kz : Nat → Nat) (B : List Nat) : Sp := (fun av S => av = [.inr (.inr (some t)), .inr (.inr (some r)), .inl (nI n)] ∧ (MD S F t z Y R kz ∧ byN S r B ∧ B.length = n), fun _ S => 0, fun _ S => 0, fun _ S rv S' => rv = (some (.inl (bI (syms B).isSome))) ∧ (txQ S S' F t z Y R kz ∧ ∀ L, syms B = some L → txP S' t z L), fun _ _ _ _ => False)
theorem rtB.bad {S S1 : MM} {F : Nat → Nat × Nat} {t r n : Nat} {z : Nat → Nat} {Y : Nat → Nat → Nat} {R : Rb} {kz : Nat → Nat} {B : List Nat} {p f : Nat} {L : List Int32} (h : rtB S S1 F t r n z Y R kz B p (f + 1) L) (hB : B.length = n) (hp : p < n) (e : symAt B p = -1) : syms B = none := by
  obtain ⟨-, -, -, -, -, hs⟩ := h
  rw [hs, symsF, if_pos (by omega), if_pos e]
  rfl
theorem wN_m {m x : Nat} (hm : m ≤ 3) (h1 : 1 ≤ m) (hx : x < 2 ^ (6 - m) * 64 ^ m) : (¬ nI x < leI m ↔ wN (nI x) = m + 1) ∧ x < 2097152 := by
  rcases (show m = 1 ∨ m = 2 ∨ m = 3 by omega) with e | e | e
  · subst e
    have hx : x < 2048 := hx
    refine ⟨?_, by omega⟩
    show ¬ nI x < nI 128 ↔ _
    rw [nI_ltI (by omega) (by decide), wN_nI (by omega)]
    split
    · omega
    · omega
  · subst e
    have hx : x < 65536 := hx
    refine ⟨?_, by omega⟩
    show ¬ nI x < nI 2048 ↔ _
    rw [nI_ltI (by omega) (by decide), wN_nI (by omega)]
    split
    · omega
    · split
      · omega
      · omega
  · subst e
    have hx : x < 2097152 := hx
    refine ⟨?_, by omega⟩
    show ¬ nI x < nI 65536 ↔ _
    rw [nI_ltI (by omega) (by decide), wN_nI (by omega)]
    split
    · omega
    · split
      · omega
      · split
        · omega
        · omega
def tX14_readText : CD := [(0, .iconst 0), (1, .istore_n 3), (2, .aload_n 0), (3, .iconst 0), (4, .putfield 159), (7, .iload_n 3), (8, .iload_n 2), (9, .if_icmp .ge 271), (12, .aload_n 1), (13, .iload_n 3), (14, .baload), (15, .sipush 255), (18, .iand), (19, .istore 4), (21, .iload 4), (23, .sipush 128), (26, .if_icmp .ge 7), (29, .iconst 0), (30, .goto 64), (33, .iload 4), (35, .sipush 192), (38, .if_icmp .lt 15), (41, .iload 4), (43, .sipush 224), (46, .if_icmp .ge 7), (49, .iconst 1), (50, .goto 44), (53, .iload 4), (55, .sipush 224), (58, .if_icmp .lt 15), (61, .iload 4), (63, .sipush 240), (66, .if_icmp .ge 7), (69, .iconst 2), (70, .goto 24), (73, .iload 4), (75, .sipush 240), (78, .if_icmp .lt 15), (81, .iload 4), (83, .sipush 248), (86, .if_icmp .ge 7), (89, .iconst 3), (90, .goto 4), (93, .iconst (-1)), (94, .istore 5), (96, .iload 5), (98, .ifCond .lt 11), (101, .iload_n 3), (102, .iload 5), (104, .iadd), (105, .iload_n 2), (106, .if_icmp .lt 5), (109, .iconst 0), (110, .ireturn), (111, .iload 5), (113, .ifCond .ne 8), (116, .iload 4), (118, .goto 11), (121, .iload 4), (123, .bipush 63), (125, .iload 5), (127, .ishr), (128, .iand), (129, .istore 6), (131, .iconst 1), (132, .istore 7), (134, .iload 7), (136, .iload 5), (138, .if_icmp .gt 44), (141, .aload_n 1), (142, .iload_n 3), (143, .iload 7), (145, .iadd), (146, .baload), (147, .sipush 192), (150, .iand), (151, .sipush 128), (154, .if_icmp .eq 5), (157, .iconst 0), (158, .ireturn), (159, .iload 6), (161, .bipush 6), (163, .ishl), (164, .aload_n 1), (165, .iload_n 3), (166, .iload 7), (168, .iadd), (169, .baload), (170, .bipush 63), (172, .iand), (173, .ior), (174, .istore 6), (176, .iinc 7 1), (179, .goto (-45)), (182, .iload 5), (184, .ifCond .ne 7), (187, .iconst 0), (188, .goto 29), (191, .iload 5), (193, .iconst 1), (194, .if_icmp .ne 9), (197, .sipush 128), (200, .goto 17), (203, .iload 5), (205, .iconst 2), (206, .if_icmp .ne 9), (209, .sipush 2048), (212, .goto 5), (215, .ldc 162), (217, .istore 7), (219, .iload 6), (221, .iload 7), (223, .if_icmp .lt 24), (226, .iload 6), (228, .ldc 163), (230, .if_icmp .gt 17), (233, .iload 6), (235, .ldc 164), (237, .if_icmp .lt 12), (240, .iload 6), (242, .ldc 165), (244, .if_icmp .gt 5), (247, .iconst 0), (248, .ireturn), (249, .aload_n 0), (250, .getfield 54), (253, .aload_n 0), (254, .getfield 159), (257, .iload 6), (259, .iastore), (260, .aload_n 0), (261, .dup), (262, .getfield 159), (265, .iconst 1), (266, .iadd), (267, .putfield 159), (270, .iload_n 3), (271, .iload 5), (273, .iconst 1), (274, .iadd), (275, .iadd), (276, .istore_n 3), (277, .goto (-270)), (280, .iconst 1), (281, .ireturn)]
set_option maxRecDepth 100000 in
theorem kX14_readText : chk cX14_readText tX14_readText = true := by decide +kernel

set_option maxRecDepth 100000 in
set_option maxHeartbeats 2000000 in
theorem c_rrt (l : Launch) : ∀ (t : Nat) (r : Nat) (n : Nat) (F : Nat → Nat × Nat) (z : Nat → Nat) (Y : Nat → Nat → Nat) (R : Rb) (kz : Nat → Nat) (B : List Nat), Ct l yX14_readText cX14_readText 8 (some .boolean) 0 0 (sp_rrt t r n F z Y R kz B) := by
  intro t r n F z Y R kz B
  refine Ct.of (fX14, nX14, aX14, iX14, lX14, [], qX14, gX14, []) false tX14_readText (fun _ S => look [(7, ([0,1,2,3], I_rt0 t r n F z Y R kz B S)), (53, ([0,1,2,3,4], I_rtA t r n F z Y R kz B S)), (73, ([0,1,2,3,4], I_rtB t r n F z Y R kz B S)), (94, ([0,1,2,3,4], I_rt1 t r n F z Y R kz B S)), (134, ([0,1,2,3,5,6,7], I_rt2 t r n F z Y R kz B S)), (217, ([0,1,2,3,5,6], I_rt3 t r n F z Y R kz B S)), (249, ([0,1,2,3,5,6], I_rt4 t r n F z Y R kz B S))]) (by decide) (by decide) kX14_readText ⟨_, _, rfl⟩ fX14_ok nX14_ok aX14_ok iX14_ok lX14_ok (fun _ _ _ _ _ _ _ _ _ _ _ _ _ _ _ _ _ _ => no_all) qX14_ok gX14_ok rfl ?_ ?_
  · rintro _ S ⟨rfl, hp⟩
    refine ⟨Nat.le_of_ble_eq_true rfl, 300, ?_⟩
    show (True ∧ (isO S 15 t ∧ (∃ k1, I_rt0 t r n F z Y R kz B S k1 [(0, .inr (.inr (some t))), (1, .inr (.inr (some r))), (2, .inl (nI n)), (3, .inl (0 : Int32))] [] (sI S 1518 t (0 : Int32)) 0 0)))
    obtain ⟨hM, hB, hBl⟩ := hp
    refine ⟨trivial, (hM 0).1, 30 * n + 29, 0, n, [], rfl, Nat.zero_le _, ⟨⟨hM.sf (by decide) 0, (Keep.sI (P := fun c => c = t ∨ c = z 17) Keep.rf (Or.inl rfl)), fun f hf => by rw [mI_sI, if_neg (fun q => hf q.1)], fun f => rfl⟩, ⟨by rw [mI_sI, if_pos ⟨rfl, rfl⟩]; rfl, Nat.zero_le _, fun j hj => absurd hj (Nat.not_lt_zero j)⟩, hB, Nat.le_refl _, by omega, ?_⟩, rfl, rfl, rfl, rfl⟩
    unfold syms
    rw [hBl]
    cases symsF B n 0 <;> rfl
  · intro av S hpre pc I hI k lo st S1 cs sl h
    obtain ⟨rfl, hp⟩ := hpre
    have hm := look_in hI
    simp only [List.mem_cons, List.not_mem_nil, or_false] at hm
    rcases hm with hm | hm | hm | hm | hm | hm | hm
    · cases hm
      obtain ⟨p, f, L, rfl, hpn, hB, rfl, rfl, rfl, rfl⟩ := h
      refine ⟨300, ?_⟩
      show (((nI n) ≤ (nI p) → (([] : List MV) = [] ∧ mret (some .boolean) (sp_rrt t r n F z Y R kz B) [.inr (.inr (some t)), .inr (.inr (some r)), .inl (nI n)] S (some (.inl (1 : Int32))) S1 0 0)) ∧ (¬ (nI n) ≤ (nI p) → ((isO S1 16 r ∨ isO S1 20 r) ∧ inR S1 r (nI p) ∧ (((128 : Int32) ≤ ((eI S1 r (nI p).toNatClampNeg) &&& (255 : Int32)) → ((((eI S1 r (nI p).toNatClampNeg) &&& (255 : Int32)) < (192 : Int32) → (∃ k1, k1 < 30 * f + 29 ∧ I_rtA t r n F z Y R kz B S k1 [(0, .inr (.inr (some t))), (1, .inr (.inr (some r))), (2, .inl (nI n)), (3, .inl (nI p)), (4, .inl ((eI S1 r (nI p).toNatClampNeg) &&& (255 : Int32)))] [] S1 0 0)) ∧ (¬ ((eI S1 r (nI p).toNatClampNeg) &&& (255 : Int32)) < (192 : Int32) → (((224 : Int32) ≤ ((eI S1 r (nI p).toNatClampNeg) &&& (255 : Int32)) → (∃ k1, k1 < 30 * f + 29 ∧ I_rtA t r n F z Y R kz B S k1 [(0, .inr (.inr (some t))), (1, .inr (.inr (some r))), (2, .inl (nI n)), (3, .inl (nI p)), (4, .inl ((eI S1 r (nI p).toNatClampNeg) &&& (255 : Int32)))] [] S1 0 0)) ∧ (¬ (224 : Int32) ≤ ((eI S1 r (nI p).toNatClampNeg) &&& (255 : Int32)) → (∃ k1, k1 < 30 * f + 29 ∧ I_rt1 t r n F z Y R kz B S k1 [(0, .inr (.inr (some t))), (1, .inr (.inr (some r))), (2, .inl (nI n)), (3, .inl (nI p)), (4, .inl ((eI S1 r (nI p).toNatClampNeg) &&& (255 : Int32)))] [.inl (1 : Int32)] S1 0 0)))))) ∧ (¬ (128 : Int32) ≤ ((eI S1 r (nI p).toNatClampNeg) &&& (255 : Int32)) → (∃ k1, k1 < 30 * f + 29 ∧ I_rt1 t r n F z Y R kz B S k1 [(0, .inr (.inr (some t))), (1, .inr (.inr (some r))), (2, .inl (nI n)), (3, .inl (nI p)), (4, .inl ((eI S1 r (nI p).toNatClampNeg) &&& (255 : Int32)))] [.inl (0 : Int32)] S1 0 0))))))
      obtain ⟨hM, hB0, hBl⟩ := hp
      obtain ⟨hQ, hT, hBy, hLp, hnp, hs⟩ := id hB
      have hn3 : n ≤ 32768 := by rw [← hBl]; exact hB0.2.2.1
      refine if_le (by omega) (by omega) (fun w => ?_) (fun w => ?_)
      · have e0 : symsF B f p = some [] := by
          cases f with
          | zero => rfl
          | succ f => rw [symsF, if_neg (by omega)]
        rw [e0] at hs
        have hs : syms B = some (L ++ []) := hs
        rw [List.append_nil] at hs
        refine ⟨rfl, rt1, ⟨by rw [hs]; rfl, hQ, fun L' e => ?_⟩, Nat.le_refl _, Nat.le_refl _⟩
        rw [hs] at e
        cases e
        exact hT
      · obtain ⟨f, rfl⟩ : ∃ f', f = f' + 1 := ⟨f - 1, by omega⟩
        have hmn : p < mN S1 r := by have := hBy.2.1; omega
        have hbl := getD_lt hBy.2.2.2.1 p
        refine ⟨Or.inl hBy.1, inRl hmn (by omega), ?_⟩
        rw [nI_clamp (by omega), hBy.2.2.2.2 p (by omega)]
        have mk1 : ∀ v, v = moI (B.getD p 0) → ∃ k1, k1 < 30 * (f + 1) + 29 ∧ I_rt1 t r n F z Y R kz B S k1 [(0, .inr (.inr (some t))), (1, .inr (.inr (some r))), (2, .inl (nI n)), (3, .inl (nI p)), (4, .inl (nI (B.getD p 0)))] [.inl v] S1 0 0 := fun v e => ⟨30 * f + 56, by omega, p, f, L, rfl, w, hB, rfl, by rw [e], rfl, rfl⟩
        have mkA : 128 ≤ B.getD p 0 → ¬ (192 ≤ B.getD p 0 ∧ B.getD p 0 < 224) → ∃ k1, k1 < 30 * (f + 1) + 29 ∧ I_rtA t r n F z Y R kz B S k1 [(0, .inr (.inr (some t))), (1, .inr (.inr (some r))), (2, .inl (nI n)), (3, .inl (nI p)), (4, .inl (nI (B.getD p 0)))] [] S1 0 0 := fun e1 e2 => ⟨30 * f + 58, by omega, p, f, L, rfl, w, e1, e2, hB, rfl, rfl, rfl, rfl⟩
        refine if_le (a := 128) (by decide) (by omega) (fun w1 => if_lt (b := 192) (by omega) (by decide) (fun w2 => mkA w1 (by omega)) (fun w2 => if_le (a := 224) (by decide) (by omega) (fun w3 => mkA w1 (by omega)) (fun w3 => mk1 _ ?_))) (fun w1 => mk1 _ ?_)
        · unfold moI
          rw [if_neg (by omega), if_pos ⟨w2, w3⟩]
        · unfold moI
          rw [if_pos w1]
    · cases hm
      obtain ⟨p, f, L, rfl, hpn, hb1, hb2, hB, rfl, rfl, rfl, rfl⟩ := h
      refine ⟨300, ?_⟩
      show (((nI (B.getD p 0)) < (224 : Int32) → (∃ k1, k1 < 30 * f + 58 ∧ I_rtB t r n F z Y R kz B S k1 [(0, .inr (.inr (some t))), (1, .inr (.inr (some r))), (2, .inl (nI n)), (3, .inl (nI p)), (4, .inl (nI (B.getD p 0)))] [] S1 0 0)) ∧ (¬ (nI (B.getD p 0)) < (224 : Int32) → (((240 : Int32) ≤ (nI (B.getD p 0)) → (∃ k1, k1 < 30 * f + 58 ∧ I_rtB t r n F z Y R kz B S k1 [(0, .inr (.inr (some t))), (1, .inr (.inr (some r))), (2, .inl (nI n)), (3, .inl (nI p)), (4, .inl (nI (B.getD p 0)))] [] S1 0 0)) ∧ (¬ (240 : Int32) ≤ (nI (B.getD p 0)) → (∃ k1, k1 < 30 * f + 58 ∧ I_rt1 t r n F z Y R kz B S k1 [(0, .inr (.inr (some t))), (1, .inr (.inr (some r))), (2, .inl (nI n)), (3, .inl (nI p)), (4, .inl (nI (B.getD p 0)))] [.inl (2 : Int32)] S1 0 0)))))
      have hbl := getD_lt hB.2.2.1.2.2.2.1 p
      have mkB : ¬ (224 ≤ B.getD p 0 ∧ B.getD p 0 < 240) → ∃ k1, k1 < 30 * f + 58 ∧ I_rtB t r n F z Y R kz B S k1 [(0, .inr (.inr (some t))), (1, .inr (.inr (some r))), (2, .inl (nI n)), (3, .inl (nI p)), (4, .inl (nI (B.getD p 0)))] [] S1 0 0 := fun e => ⟨30 * f + 57, by omega, p, f, L, rfl, hpn, hb1, hb2, e, hB, rfl, rfl, rfl, rfl⟩
      refine if_lt (b := 224) (by omega) (by decide) (fun w => mkB (by omega)) (fun w => if_le (a := 240) (by decide) (by omega) (fun w2 => mkB (by omega)) (fun w2 => ⟨30 * f + 56, by omega, p, f, L, rfl, hpn, hB, rfl, ?_, rfl, rfl⟩))
      unfold moI
      rw [if_neg (by omega), if_neg hb2, if_pos ⟨w, w2⟩]
    · cases hm
      obtain ⟨p, f, L, rfl, hpn, hb1, hb2, hb3, hB, rfl, rfl, rfl, rfl⟩ := h
      refine ⟨300, ?_⟩
      show (((nI (B.getD p 0)) < (240 : Int32) → (∃ k1, k1 < 30 * f + 57 ∧ I_rt1 t r n F z Y R kz B S k1 [(0, .inr (.inr (some t))), (1, .inr (.inr (some r))), (2, .inl (nI n)), (3, .inl (nI p)), (4, .inl (nI (B.getD p 0)))] [.inl (-1 : Int32)] S1 0 0)) ∧ (¬ (nI (B.getD p 0)) < (240 : Int32) → (((248 : Int32) ≤ (nI (B.getD p 0)) → (∃ k1, k1 < 30 * f + 57 ∧ I_rt1 t r n F z Y R kz B S k1 [(0, .inr (.inr (some t))), (1, .inr (.inr (some r))), (2, .inl (nI n)), (3, .inl (nI p)), (4, .inl (nI (B.getD p 0)))] [.inl (-1 : Int32)] S1 0 0)) ∧ (¬ (248 : Int32) ≤ (nI (B.getD p 0)) → (∃ k1, k1 < 30 * f + 57 ∧ I_rt1 t r n F z Y R kz B S k1 [(0, .inr (.inr (some t))), (1, .inr (.inr (some r))), (2, .inl (nI n)), (3, .inl (nI p)), (4, .inl (nI (B.getD p 0)))] [.inl (3 : Int32)] S1 0 0)))))
      have hbl := getD_lt hB.2.2.1.2.2.2.1 p
      have mk1 : ∀ v, v = moI (B.getD p 0) → ∃ k1, k1 < 30 * f + 57 ∧ I_rt1 t r n F z Y R kz B S k1 [(0, .inr (.inr (some t))), (1, .inr (.inr (some r))), (2, .inl (nI n)), (3, .inl (nI p)), (4, .inl (nI (B.getD p 0)))] [.inl v] S1 0 0 := fun v e => ⟨30 * f + 56, by omega, p, f, L, rfl, hpn, hB, rfl, by rw [e], rfl, rfl⟩
      refine if_lt (b := 240) (by omega) (by decide) (fun w => mk1 _ ?_) (fun w => if_le (a := 248) (by decide) (by omega) (fun w2 => mk1 _ ?_) (fun w2 => mk1 _ ?_))
      · unfold moI
        rw [if_neg (by omega), if_neg hb2, if_neg hb3, if_neg (by omega)]
      · unfold moI
        rw [if_neg (by omega), if_neg hb2, if_neg hb3, if_neg (by omega)]
      · unfold moI
        rw [if_neg (by omega), if_neg hb2, if_neg hb3, if_pos ⟨w, w2⟩]
    · cases hm
      obtain ⟨p, f, L, rfl, hpn, hB, rfl, rfl, rfl, rfl⟩ := h
      refine ⟨300, ?_⟩
      show (((moI (B.getD p 0)) < 0 → (([] : List MV) = [] ∧ mret (some .boolean) (sp_rrt t r n F z Y R kz B) [.inr (.inr (some t)), .inr (.inr (some r)), .inl (nI n)] S (some (.inl (0 : Int32))) S1 0 0)) ∧ (¬ (moI (B.getD p 0)) < 0 → ((((nI p) + (moI (B.getD p 0))) < (nI n) → ((¬ (moI (B.getD p 0)) = 0 → (∃ k1, k1 < 30 * f + 56 ∧ I_rt2 t r n F z Y R kz B S k1 [(0, .inr (.inr (some t))), (1, .inr (.inr (some r))), (2, .inl (nI n)), (3, .inl (nI p)), (5, .inl (moI (B.getD p 0))), (6, .inl ((nI (B.getD p 0)) &&& ((63 : Int32) >>> ((moI (B.getD p 0)) &&& 31)))), (7, .inl (1 : Int32))] [] S1 0 0)) ∧ ((moI (B.getD p 0)) = 0 → (∃ k1, k1 < 30 * f + 56 ∧ I_rt2 t r n F z Y R kz B S k1 [(0, .inr (.inr (some t))), (1, .inr (.inr (some r))), (2, .inl (nI n)), (3, .inl (nI p)), (5, .inl (moI (B.getD p 0))), (6, .inl (nI (B.getD p 0))), (7, .inl (1 : Int32))] [] S1 0 0)))) ∧ (¬ ((nI p) + (moI (B.getD p 0))) < (nI n) → (([] : List MV) = [] ∧ mret (some .boolean) (sp_rrt t r n F z Y R kz B) [.inr (.inr (some t)), .inr (.inr (some r)), .inl (nI n)] S (some (.inl (0 : Int32))) S1 0 0)))))
      obtain ⟨hM, hB0, hBl⟩ := hp
      obtain ⟨hQ, hT, hBy, hLp, hnp, hs⟩ := id hB
      have hn3 : n ≤ 32768 := by rw [← hBl]; exact hB0.2.2.1
      have hbl := getD_lt hBy.2.2.2.1 p
      have bad : symAt B p = -1 → (([] : List MV) = [] ∧ mret (some .boolean) (sp_rrt t r n F z Y R kz B) [.inr (.inr (some t)), .inr (.inr (some r)), .inl (nI n)] S (some (.inl (0 : Int32))) S1 0 0) := fun e => by
        have en := hB.bad hBl hpn e
        exact ⟨rfl, rt0, ⟨by rw [en]; rfl, hQ, fun L' e => by rw [en] at e; cases e⟩, Nat.le_refl _, Nat.le_refl _⟩
      have eS : symAt B p = symF B p (nI (B.getD p 0)) := by unfold symAt; rw [bAt_nI (by omega)]
      have l128 : (128 : Int32) ≤ nI (B.getD p 0) ↔ 128 ≤ B.getD p 0 := by rw [← Int32.not_lt, show (128 : Int32) = nI 128 from rfl, nI_ltI (by omega) (by decide)]; omega
      have l192 : nI (B.getD p 0) < (192 : Int32) ↔ B.getD p 0 < 192 := nI_ltI (b := 192) (by omega) (by decide)
      have l247 : (247 : Int32) < nI (B.getD p 0) ↔ 247 < B.getD p 0 := nI_ltI (a := 247) (by decide) (by omega)
      have l224 : (224 : Int32) ≤ nI (B.getD p 0) ↔ 224 ≤ B.getD p 0 := by rw [← Int32.not_lt, show (224 : Int32) = nI 224 from rfl, nI_ltI (by omega) (by decide)]; omega
      have l240 : (240 : Int32) ≤ nI (B.getD p 0) ↔ 240 ≤ B.getD p 0 := by rw [← Int32.not_lt, show (240 : Int32) = nI 240 from rfl, nI_ltI (by omega) (by decide)]; omega
      by_cases c0 : B.getD p 0 < 128
      · have em : moI (B.getD p 0) = nI 0 := by unfold moI; rw [if_pos c0]; rfl
        rw [em]
        have es : symAt B p = nI (B.getD p 0) := by rw [eS]; unfold symF; rw [if_neg (fun q => by have := l128.1 q; omega)]
        refine ⟨fun q => absurd q (by decide), fun _ => ?_⟩
        rw [nI_add]
        refine if_lt (by omega) (by omega) (fun w => ⟨fun q => absurd rfl q, fun _ => ⟨30 * f + 35 + 0, by omega, p, f, L, 0, 1, 0, B.getD p 0, rfl, rfl, Nat.le_refl _, by decide, w, ?_, ?_, hB, rfl, rfl, rfl, rfl⟩⟩) (fun w => absurd hpn (by omega))
        · rw [if_pos rfl]; exact c0
        · rw [if_pos rfl]; exact es
      · by_cases cb : B.getD p 0 < 192 ∨ 247 < B.getD p 0
        · have em : moI (B.getD p 0) = -1 := by
            unfold moI
            rw [if_neg c0, if_neg (by omega), if_neg (by omega), if_neg (by omega)]
          rw [em]
          refine ⟨fun _ => bad ?_, fun q => absurd (by decide) q⟩
          rw [eS]; unfold symF
          rw [if_pos (l128.2 (by omega)), if_pos]
          rcases cb with q | q
          · exact Or.inl (l192.2 q)
          · exact Or.inr (Or.inl (l247.2 q))
        · obtain ⟨m, m1, m3, em, esm, ex⟩ : ∃ m, 1 ≤ m ∧ m ≤ 3 ∧ moI (B.getD p 0) = nI m ∧ symM (nI (B.getD p 0)) = m ∧ ∃ x, x < 2 ^ (6 - m) ∧ nI (B.getD p 0) &&& ((63 : Int32) >>> (nI m &&& 31)) = nI x := by
            unfold moI symM
            by_cases c1 : B.getD p 0 < 224
            · exact ⟨1, by decide, by decide, by rw [if_neg c0, if_pos (by omega)]; rfl, by rw [if_neg (fun q => by have := l224.1 q; omega)], B.getD p 0 % 32, Nat.mod_lt _ (by decide), pk_andN (by omega) 5 (by decide)⟩
            · by_cases c2 : B.getD p 0 < 240
              · exact ⟨2, by decide, by decide, by rw [if_neg c0, if_neg (by omega), if_pos (by omega)]; rfl, by rw [if_pos (l224.2 (by omega)), if_neg (fun q => by have := l240.1 q; omega)], B.getD p 0 % 16, Nat.mod_lt _ (by decide), pk_andN (by omega) 4 (by decide)⟩
              · exact ⟨3, by decide, by decide, by rw [if_neg c0, if_neg (by omega), if_neg (by omega), if_pos (by omega)]; rfl, by rw [if_pos (l224.2 (by omega)), if_pos (l240.2 (by omega))], B.getD p 0 % 8, Nat.mod_lt _ (by decide), pk_andN (by omega) 3 (by decide)⟩
          obtain ⟨x, hx, ex⟩ := ex
          rw [em, ex]
          refine ⟨fun q => absurd q (nI_pos (by omega)), fun _ => ?_⟩
          rw [nI_add]
          refine if_lt (by omega) (by omega) (fun w => if_ne (b := 0) (by omega) (by decide) (fun q => ⟨30 * f + 35 + m, by omega, p, f, L, m, 1, m, x, rfl, by omega, Nat.le_refl _, m3, w, ?_, ?_, hB, rfl, rfl, rfl, rfl⟩) (fun q => absurd q (by omega))) (fun w => bad ?_)
          · rw [if_neg q]
            show x < 2 ^ (6 - m) * 64 ^ 0
            omega
          · rw [if_neg q, eS]; unfold symF
            rw [if_pos (l128.2 (by omega)), esm, if_neg, ex]
            rintro (q | q | q)
            · have := l192.1 q; omega
            · have := l247.1 q; omega
            · omega
          · rw [eS]; unfold symF
            rw [if_pos (l128.2 (by omega)), esm, if_pos (Or.inr (Or.inr (by omega)))]
    · cases hm
      obtain ⟨p, f, L, m, kk, j, x, rfl, hkj, hkk, hm3, hpn, hx, he, hB, rfl, rfl, rfl, rfl⟩ := h
      refine ⟨300, ?_⟩
      show (((nI m) < (nI kk) → ((¬ (nI m) = 0 → ((¬ (nI m) = (1 : Int32) → ((¬ (nI m) = (2 : Int32) → (∃ k1, k1 < 30 * f + 35 + j ∧ I_rt3 t r n F z Y R kz B S k1 [(0, .inr (.inr (some t))), (1, .inr (.inr (some r))), (2, .inl (nI n)), (3, .inl (nI p)), (5, .inl (nI m)), (6, .inl (nI x))] [.inl (65536 : Int32)] S1 0 0)) ∧ ((nI m) = (2 : Int32) → (∃ k1, k1 < 30 * f + 35 + j ∧ I_rt3 t r n F z Y R kz B S k1 [(0, .inr (.inr (some t))), (1, .inr (.inr (some r))), (2, .inl (nI n)), (3, .inl (nI p)), (5, .inl (nI m)), (6, .inl (nI x))] [.inl (2048 : Int32)] S1 0 0)))) ∧ ((nI m) = (1 : Int32) → (∃ k1, k1 < 30 * f + 35 + j ∧ I_rt3 t r n F z Y R kz B S k1 [(0, .inr (.inr (some t))), (1, .inr (.inr (some r))), (2, .inl (nI n)), (3, .inl (nI p)), (5, .inl (nI m)), (6, .inl (nI x))] [.inl (128 : Int32)] S1 0 0)))) ∧ ((nI m) = 0 → (∃ k1, k1 < 30 * f + 35 + j ∧ I_rt3 t r n F z Y R kz B S k1 [(0, .inr (.inr (some t))), (1, .inr (.inr (some r))), (2, .inl (nI n)), (3, .inl (nI p)), (5, .inl (nI m)), (6, .inl (nI x))] [.inl (0 : Int32)] S1 0 0)))) ∧ (¬ (nI m) < (nI kk) → ((isO S1 16 r ∨ isO S1 20 r) ∧ inR S1 r ((nI p) + (nI kk)) ∧ ((((eI S1 r ((nI p) + (nI kk)).toNatClampNeg) &&& (192 : Int32)) = (128 : Int32) → ((isO S1 16 r ∨ isO S1 20 r) ∧ inR S1 r ((nI p) + (nI kk)) ∧ (∃ k1, k1 < 30 * f + 35 + j ∧ I_rt2 t r n F z Y R kz B S k1 [(0, .inr (.inr (some t))), (1, .inr (.inr (some r))), (2, .inl (nI n)), (3, .inl (nI p)), (5, .inl (nI m)), (6, .inl (((nI x) <<< ((6 : Int32) &&& 31)) ||| ((eI S1 r ((nI p) + (nI kk)).toNatClampNeg) &&& (63 : Int32)))), (7, .inl ((nI kk) + (1 : Int32)))] [] S1 0 0))) ∧ (¬ ((eI S1 r ((nI p) + (nI kk)).toNatClampNeg) &&& (192 : Int32)) = (128 : Int32) → (([] : List MV) = [] ∧ mret (some .boolean) (sp_rrt t r n F z Y R kz B) [.inr (.inr (some t)), .inr (.inr (some r)), .inl (nI n)] S (some (.inl (0 : Int32))) S1 0 0))))))
      obtain ⟨hM, hB0, hBl⟩ := hp
      obtain ⟨hQ, hT, hBy, hLp, hnp, hs⟩ := id hB
      have hn3 : n ≤ 32768 := by rw [← hBl]; exact hB0.2.2.1
      refine if_lt (by omega) (by omega) (fun w => ?_) (fun w => ?_)
      · have hj0 : j = 0 := by omega
        subst hj0
        have hk1 : kk - 1 = m := by omega
        rw [hk1] at hx
        have ef : symAt B p = finS m (nI x) := by
          unfold finS
          by_cases c : m = 0
          · rw [if_pos c] at he ⊢; exact he
          · rw [if_neg c] at he ⊢; rw [he]; rfl
        have mk : ∀ v, v = leI m → ∃ k1, k1 < 30 * f + 35 + 0 ∧ I_rt3 t r n F z Y R kz B S k1 [(0, .inr (.inr (some t))), (1, .inr (.inr (some r))), (2, .inl (nI n)), (3, .inl (nI p)), (5, .inl (nI m)), (6, .inl (nI x))] [.inl v] S1 0 0 := fun v e => ⟨30 * f + 34, by omega, p, f, L, m, x, rfl, hm3, hpn, hx, ef, hB, rfl, by rw [e], rfl, rfl⟩
        refine if_ne (b := 0) (by omega) (by decide) (fun q0 => if_ne (b := 1) (by omega) (by decide) (fun q1 => if_ne (b := 2) (by omega) (by decide) (fun q2 => mk _ ?_) (fun q2 => mk _ ?_)) (fun q1 => mk _ ?_)) (fun q0 => mk _ ?_)
        · unfold leI; rw [if_neg q0, if_neg q1, if_neg q2]
        · unfold leI; rw [if_neg q0, if_neg q1, if_pos q2]
        · unfold leI; rw [if_neg q0, if_pos q1]
        · unfold leI; rw [if_pos q0]
      · obtain ⟨j, rfl⟩ : ∃ j', j = j' + 1 := ⟨j - 1, by omega⟩
        have m0 : m ≠ 0 := by omega
        rw [if_neg m0] at he hx
        have hmn : p + kk < mN S1 r := by have := hBy.2.1; omega
        have hbl := getD_lt hBy.2.2.2.1 (p + kk)
        have ea := rw_and (hBy.2.2.2.2 (p + kk) (by omega))
        have hx2 : x < 1048576 ∧ 2 ^ (6 - m) * 64 ^ kk = 2 ^ (6 - m) * 64 ^ (kk - 1) * 64 := by
          obtain ⟨q, rfl⟩ : ∃ q, kk = q + 1 := ⟨kk - 1, by omega⟩
          refine ⟨?_, by rw [Nat.pow_succ, Nat.add_sub_cancel, Nat.mul_assoc]⟩
          have h1 : (2 : Nat) ^ (6 - m) ≤ 32 := by
            rcases (show m = 1 ∨ m = 2 ∨ m = 3 by omega) with e | e | e <;> subst e <;> decide
          have h2 : (64 : Nat) ^ (q + 1 - 1) ≤ 4096 := by
            rcases (show q = 0 ∨ q = 1 ∨ q = 2 by omega) with e | e | e <;> subst e <;> decide
          have := Nat.mul_le_mul h1 h2
          omega
        have eb : bAt B (nI (p + kk)) = nI (B.getD (p + kk) 0) := bAt_nI (by omega)
        refine ⟨Or.inl hBy.1, by rw [nI_add]; exact inRl hmn (by omega), ?_⟩
        rw [nI_add, nI_clamp (by omega), ea.1, ea.2]
        rw [symR, symGo, eb] at he
        refine ⟨fun q => ⟨Or.inl hBy.1, inRl hmn (by omega), ?_⟩, fun q => ?_⟩
        · rw [if_pos q, shl6 hx2.1 hbl] at he
          rw [shl6 hx2.1 hbl]
          refine ⟨30 * f + 35 + j, by omega, p, f, L, m, kk + 1, j, _, rfl, by omega, by omega, hm3, hpn, ?_, ?_, hB, by rw [nI_1], rfl, rfl, rfl⟩
          · rw [if_neg m0, Nat.add_sub_cancel, hx2.2]; omega
          · rw [if_neg m0, he]; rfl
        · rw [if_neg q] at he
          have en := hB.bad hBl (by omega) he
          exact ⟨rfl, rt0, ⟨by rw [en]; rfl, hQ, fun L' e => by rw [en] at e; cases e⟩, Nat.le_refl _, Nat.le_refl _⟩
    · cases hm
      obtain ⟨p, f, L, m, x, rfl, hm3, hpn, hx, he, hB, rfl, rfl, rfl, rfl⟩ := h
      refine ⟨300, ?_⟩
      show (((nI x) < (leI m) → (([] : List MV) = [] ∧ mret (some .boolean) (sp_rrt t r n F z Y R kz B) [.inr (.inr (some t)), .inr (.inr (some r)), .inl (nI n)] S (some (.inl (0 : Int32))) S1 0 0)) ∧ (¬ (nI x) < (leI m) → (((1114111 : Int32) < (nI x) → (([] : List MV) = [] ∧ mret (some .boolean) (sp_rrt t r n F z Y R kz B) [.inr (.inr (some t)), .inr (.inr (some r)), .inl (nI n)] S (some (.inl (0 : Int32))) S1 0 0)) ∧ (¬ (1114111 : Int32) < (nI x) → (((nI x) < (55296 : Int32) → (∃ k1, k1 < 30 * f + 34 ∧ I_rt4 t r n F z Y R kz B S k1 [(0, .inr (.inr (some t))), (1, .inr (.inr (some r))), (2, .inl (nI n)), (3, .inl (nI p)), (5, .inl (nI m)), (6, .inl (nI x))] [] S1 0 0)) ∧ (¬ (nI x) < (55296 : Int32) → (((57343 : Int32) < (nI x) → (∃ k1, k1 < 30 * f + 34 ∧ I_rt4 t r n F z Y R kz B S k1 [(0, .inr (.inr (some t))), (1, .inr (.inr (some r))), (2, .inl (nI n)), (3, .inl (nI p)), (5, .inl (nI m)), (6, .inl (nI x))] [] S1 0 0)) ∧ (¬ (57343 : Int32) < (nI x) → (([] : List MV) = [] ∧ mret (some .boolean) (sp_rrt t r n F z Y R kz B) [.inr (.inr (some t)), .inr (.inr (some r)), .inl (nI n)] S (some (.inl (0 : Int32))) S1 0 0)))))))))
      obtain ⟨hM, hB0, hBl⟩ := hp
      have bad : symAt B p = -1 → (([] : List MV) = [] ∧ mret (some .boolean) (sp_rrt t r n F z Y R kz B) [.inr (.inr (some t)), .inr (.inr (some r)), .inl (nI n)] S (some (.inl (0 : Int32))) S1 0 0) := fun e => by
        have en := hB.bad hBl (by omega) e
        exact ⟨rfl, rt0, ⟨by rw [en]; rfl, hB.1, fun L' e => by rw [en] at e; cases e⟩, Nat.le_refl _, Nat.le_refl _⟩
      have mk : x < 1114112 → symAt B p = nI x → wN (nI x) = m + 1 → ∃ k1, k1 < 30 * f + 34 ∧ I_rt4 t r n F z Y R kz B S k1 [(0, .inr (.inr (some t))), (1, .inr (.inr (some r))), (2, .inl (nI n)), (3, .inl (nI p)), (5, .inl (nI m)), (6, .inl (nI x))] [] S1 0 0 := fun e1 e2 e3 => ⟨30 * f + 33, by omega, p, f, L, m, x, rfl, hm3, hpn, e1, e2, e3, hB, rfl, rfl, rfl, rfl⟩
      by_cases m0 : m = 0
      · subst m0
        rw [if_pos rfl] at hx
        have he : symAt B p = nI x := he
        refine if_lt (b := 0) (by omega) (by decide) (fun w => absurd w (Nat.not_lt_zero x)) (fun _ => if_lt (a := 1114111) (by decide) (by omega) (fun w => absurd w (by omega)) (fun _ => if_lt (b := 55296) (by omega) (by decide) (fun _ => mk (by omega) he ?_) (fun w => absurd w (by omega))))
        rw [wN_nI (by omega), if_pos hx]
      · rw [if_neg m0] at hx
        obtain ⟨hw, hx2⟩ := wN_m hm3 (by omega) hx
        have hwo : wOf (nI x) = nI m + 1 ↔ wN (nI x) = m + 1 := by
          have := wN_le (nI x)
          rw [wOf_N, nI_1, nI_eq (by omega) (by omega)]
        have he : symAt B p = if isCh (nI x) = 0 then -1 else if wOf (nI x) = nI m + 1 then nI x else -1 := by
          rw [he]; unfold finS; rw [if_neg m0]
        have l1 : (1114111 : Int32) < nI x ↔ 1114111 < x := nI_ltI (a := 1114111) (by decide) (by omega)
        have l2 : nI x < (55296 : Int32) ↔ x < 55296 := nI_ltI (b := 55296) (by omega) (by decide)
        have l3 : nI x ≤ (57343 : Int32) ↔ x ≤ 57343 := by rw [← Int32.not_lt, show (57343 : Int32) = nI 57343 from rfl, nI_ltI (by decide) (by omega)]; omega
        have ch1 : ¬ 1114111 < x → (x < 55296 ∨ 57343 < x) → isCh (nI x) ≠ 0 := fun a b => by
          unfold isCh
          rw [if_neg (fun q => a (l1.1 q))]
          rcases b with b | b
          · rw [if_pos (l2.2 b)]; decide
          · rw [if_neg (fun q => by have := l2.1 q; omega), if_neg (fun q => by have := l3.1 q; omega)]; decide
        refine ⟨fun q => bad ?_, fun q => if_lt (a := 1114111) (by decide) (by omega) (fun w => bad ?_) (fun w => if_lt (b := 55296) (by omega) (by decide) (fun w2 => mk (by omega) ?_ (hw.1 q)) (fun w2 => if_lt (a := 57343) (by decide) (by omega) (fun w3 => mk (by omega) ?_ (hw.1 q)) (fun w3 => bad ?_)))⟩
        · rw [he]
          split
          · rfl
          · rw [if_neg (fun e => absurd q (hw.2 (hwo.1 e)))]
        · rw [he, if_pos]
          unfold isCh
          rw [if_pos (l1.2 w)]
        · rw [he, if_neg (ch1 (by omega) (Or.inl w2)), if_pos (hwo.2 (hw.1 q))]
        · rw [he, if_neg (ch1 (by omega) (Or.inr w3)), if_pos (hwo.2 (hw.1 q))]
        · rw [he, if_pos]
          unfold isCh
          rw [if_neg (fun e => by have := l1.1 e; omega), if_neg (fun e => by have := l2.1 e; omega), if_pos (l3.2 w3)]
    · cases hm
      obtain ⟨p, f, L, m, x, rfl, hm3, hpn, hx, he, hw, hB, rfl, rfl, rfl, rfl⟩ := h
      refine ⟨300, ?_⟩
      show (isO S1 15 t ∧ (isO S1 15 t ∧ (pa (mR S1 1517 t) fun a_1 => isO S1 17 a_1 ∧ inR S1 a_1 (mI S1 1518 t) ∧ (isO (rI S1 a_1 (upd (eI S1 a_1) (mI S1 1518 t).toNatClampNeg (nI x))) 15 t ∧ (True ∧ (isO (rI S1 a_1 (upd (eI S1 a_1) (mI S1 1518 t).toNatClampNeg (nI x))) 15 t ∧ (∃ k1, k1 < 30 * f + 33 ∧ I_rt0 t r n F z Y R kz B S k1 [(0, .inr (.inr (some t))), (1, .inr (.inr (some r))), (2, .inl (nI n)), (3, .inl ((nI p) + ((nI m) + (1 : Int32))))] [] (sI (rI S1 a_1 (upd (eI S1 a_1) (mI S1 1518 t).toNatClampNeg (nI x))) 1518 t ((mI (rI S1 a_1 (upd (eI S1 a_1) (mI S1 1518 t).toNatClampNeg (nI x))) 1518 t) + (1 : Int32))) 0 0)))))))
      obtain ⟨hM, hB0, hBl⟩ := hp
      obtain ⟨⟨hM1, hK, hI, hR⟩, ⟨t1, t2, t3⟩, hBy, hLp, hnp, hs⟩ := id hB
      have hn3 : n ≤ 32768 := by rw [← hBl]; exact hB0.2.2.1
      have r17 := hM1 1 17 (by decide)
      have cl : (nI L.length).toNatClampNeg = L.length := nI_clamp (by omega)
      have hrz : r ≠ z 17 := fun e => by
        have a1 := hBy.1.2
        rw [e, r17.2.2.1.2] at a1
        exact absurd a1 (by decide)
      refine ⟨(hM1 0).1, (hM1 0).1, pa_i r17.1 ⟨r17.2.2.1, ?_, (hM1 0).1, trivial, (hM1 0).1, ?_⟩⟩
      · rw [t1]; exact inRn (N := 32768) r17.2.2.2 (by omega) (by decide)
      · have e1 : mI (rI S1 (z 17) (upd (eI S1 (z 17)) (mI S1 1518 t).toNatClampNeg (nI x))) 1518 t = nI L.length := t1
        rw [e1, t1, nI_1, nI_1, nI_add, cl]
        have kp : Keep (fun c => c = t ∨ c = z 17) S1 (sI (rI S1 (z 17) (upd (eI S1 (z 17)) L.length (nI x))) 1518 t (nI (L.length + 1))) := Keep.sI (P := fun c => c = t ∨ c = z 17) (Keep.rI (P := fun c => c = t ∨ c = z 17) Keep.rf (Or.inr rfl)) (Or.inl rfl)
        have hI9 : ∀ f, f ≠ 1518 → mI (sI (rI S1 (z 17) (upd (eI S1 (z 17)) L.length (nI x))) 1518 t (nI (L.length + 1))) f t = mI S1 f t := fun f hf => by rw [mI_sI, if_neg (fun e => hf e.1)]; rfl
        have hM9 : MD (sI (rI S1 (z 17) (upd (eI S1 (z 17)) L.length (nI x))) 1518 t (nI (L.length + 1))) F t z Y R kz := hM1.keep0 kp (fun b hb => by
          rcases hb with e | e
          · rw [e, (hM1 0).2]
            exact ⟨rfl, fun k _ q => by injection q with _ q; omega⟩
          · rw [e, r17.2.1]
            refine ⟨rfl, fun k hk q => ?_⟩
            injection q with _ q
            revert hk; rw [show k = 17 by omega]; decide) (fun f hf => hI9 f (fun e => by subst e; revert hf; decide)) (fun f => rfl) (fun _ _ => rfl) (fun b hb => (kp.1 b (hM1 12 b hb)).1)
        refine ⟨30 * f + 29, by omega, p + (m + 1), f, L ++ [nI x], rfl, by omega, ⟨⟨hM9, hK.tr kp, fun f hf => (hI9 f hf).trans (hI f hf), fun f => hR f⟩, ⟨?_, ?_, fun j hj => ?_⟩, ⟨hBy.1, hBy.2.1, hBy.2.2.1, hBy.2.2.2.1, fun j hj => ?_⟩, ?_, by omega, ?_⟩, rfl, rfl, rfl, rfl⟩
        · rw [mI_sI, if_pos ⟨rfl, rfl⟩, List.length_append]; rfl
        · rw [List.length_append]; show L.length + 1 ≤ _; omega
        · rw [List.length_append] at hj
          have hj : j < L.length + 1 := hj
          show eI (rI S1 (z 17) _) (z 17) j = _
          rw [eI_rI, if_pos rfl, upd]
          by_cases c : j = L.length
          · rw [if_pos c, c, List.getD_eq_getElem?_getD, List.getElem?_append_right (Nat.le_refl _), Nat.sub_self]; rfl
          · rw [if_neg c, List.getD_eq_getElem?_getD, List.getElem?_append_left (by omega), ← List.getD_eq_getElem?_getD]
            exact t3 j (by omega)
        · show eI (rI S1 (z 17) _) r j &&& 255 = _
          rw [eI_rI, if_neg hrz]
          exact hBy.2.2.2.2 j hj
        · rw [List.length_append]; show L.length + 1 ≤ _; omega
        · rw [hs, symsF, if_pos (by omega), he, if_neg (nI_nm (by omega)), hw]
          cases symsF B f (p + (m + 1)) with
          | none => rfl
          | some l => simp
theorem u_rrt (l : Launch) : Us l yX14_readText cX14_readText 8 (some .boolean) 0 0 15 T_rrt := by
  intro Rc Rs av S cs sl K Kx h
  unfold T_rrt at h
  split at h
  · rename_i t_o r_o n_v
    obtain ⟨t, rfl, h_1⟩ := pa_of h
    obtain ⟨r, rfl, h_2⟩ := pa_of h_1
    obtain ⟨n, rfl, h_3⟩ := h_2
    obtain ⟨F, z, Y, R, kz, B, hp, hc, hs, hk⟩ := h_3
    refine ⟨(sp_rrt t r n F z Y R kz B), c_rrt l t r n F z Y R kz B, fun _ _ h9 => ⟨_, _, h9.1, (h9.2.1 0).1⟩, ⟨rfl, hp⟩, hc, hs, fun v9 S' h8 => by
      obtain ⟨h7, h8⟩ := h8
      cases h7
      exact hk _ h8, fun _ _ q => q.elim⟩
  · exact h.elim
