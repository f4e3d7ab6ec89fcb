/-! ===== The reference: feed0 ===== -/
theorem ss8 (x : BitVec 32) (s : Nat) (hs : s ≤ 24) : (x.sshiftRight s).toNat % 256 = (x >>> s).toNat % 256 := by
  have h : (x.sshiftRight s).setWidth 8 = (x >>> s).setWidth 8 := by
    apply BitVec.eq_of_getLsbD_eq
    intro i hi
    rw [BitVec.getLsbD_setWidth, BitVec.getLsbD_setWidth, BitVec.getLsbD_sshiftRight, BitVec.getLsbD_ushiftRight]
    have h1 : ¬ 32 ≤ i := by omega
    have h2 : s + i < 32 := by omega
    simp [h1, h2]
  have := congrArg BitVec.toNat h
  rw [BitVec.toNat_setWidth, BitVec.toNat_setWidth] at this
  exact this
theorem b8_s24 (w : Int32) : b8 (w >>> (24 : Int32)) = b8 (ush w 24) := by
  unfold b8
  rw [Int32.toBitVec_shiftRight, show ((24 : Int32).toBitVec.smod 32) = 24#32 from by decide]
  exact ss8 w.toBitVec 24 (by decide)
theorem b8_s16 (w : Int32) : b8 (w >>> (16 : Int32)) = b8 (ush w 16) := by
  unfold b8
  rw [Int32.toBitVec_shiftRight, show ((16 : Int32).toBitVec.smod 32) = 16#32 from by decide]
  exact ss8 w.toBitVec 16 (by decide)
theorem b8_s08 (w : Int32) : b8 (w >>> (8 : Int32)) = b8 (ush w 8) := by
  unfold b8
  rw [Int32.toBitVec_shiftRight, show ((8 : Int32).toBitVec.smod 32) = 8#32 from by decide]
  exact ss8 w.toBitVec 8 (by decide)
theorem b8_s00 (w : Int32) : b8 (w >>> (0 : Int32)) = b8 w := by rw [Int32.shiftRight_zero]
def fiv (a b c d e : Int32) (j : Nat) : Int32 := if j = 0 then a else if j = 1 then b else if j = 2 then c else if j = 3 then d else e
def fdW (a b c d e : Int32) (j : Nat) : Int32 := fiv a b c d e (j / 4) >>> nI (24 - 8 * (j % 4))
theorem fdW_B (a b c d e : Int32) : ∀ {j : Nat}, j < 20 → b8 (fdW a b c d e j) = (vB (feedB a b c d e)).getD j 0
  | 0, _ => b8_s24 a
  | 1, _ => b8_s16 a
  | 2, _ => b8_s08 a
  | 3, _ => b8_s00 a
  | 4, _ => b8_s24 b
  | 5, _ => b8_s16 b
  | 6, _ => b8_s08 b
  | 7, _ => b8_s00 b
  | 8, _ => b8_s24 c
  | 9, _ => b8_s16 c
  | 10, _ => b8_s08 c
  | 11, _ => b8_s00 c
  | 12, _ => b8_s24 d
  | 13, _ => b8_s16 d
  | 14, _ => b8_s08 d
  | 15, _ => b8_s00 d
  | 16, _ => b8_s24 e
  | 17, _ => b8_s16 e
  | 18, _ => b8_s08 e
  | 19, _ => b8_s00 e
  | j + 20, h => absurd h (by omega)
theorem fdx : ∀ j, j < 20 → nI j / 4 = nI (j / 4) ∧ (24 - 8 * (nI j - nI j / 4 * 4)) &&& 31 = nI (24 - 8 * (j % 4)) := by decide
def I_fc (m t : Nat) (a b c d e : Int32) (R : Rb) (S : MM) (k : Nat) : KT := fun lo st S1 cs sl => ∃ q, k = 100 - m ∧ R.Q.tp.length + 20 ≤ 32768 ∧ q ∉ mL S ∧ Keep (fun _ => False) S S1 ∧ isO S1 17 q ∧ mN S1 q = 5 ∧ (∀ j, j < m → eI S1 q j = fiv a b c d e j) ∧ lo = [(0, .inr (.inr (some t))), (1, .inl a), (2, .inl b), (3, .inl c), (4, .inl d), (5, .inl e)] ∧ st = [.inr (.inr (some q))] ∧ cs = 1 ∧ sl = 5
theorem fc_st {m t q : Nat} {a b c d e : Int32} {R : Rb} {S S1 : MM} {v : Int32} {x : Nat} {lo : List (Nat × MV)} (hm : m < 90) (hx : x = m) (hl : R.Q.tp.length + 20 ≤ 32768) (hq : q ∉ mL S) (hK : Keep (fun _ => False) S S1) (q1 : isO S1 17 q) (q2 : mN S1 q = 5) (q3 : ∀ j, j < m → eI S1 q j = fiv a b c d e j) (hv : v = fiv a b c d e m) (hlo : lo = [(0, .inr (.inr (some t))), (1, .inl a), (2, .inl b), (3, .inl c), (4, .inl d), (5, .inl e)]) : ∃ k1, k1 < 100 - m ∧ I_fc (m + 1) t a b c d e R S k1 lo [.inr (.inr (some q))] (rI S1 q (upd (eI S1 q) x v)) 1 5 := by
  refine ⟨100 - (m + 1), by omega, q, rfl, hl, hq, ?_, q1, q2, fun j hj => ?_, hlo, rfl, rfl, rfl⟩
  · have k1 : Keep (fun c => c = q) S1 (rI S1 q (upd (eI S1 q) x v)) := Keep.rI (P := fun c => c = q) Keep.rf rfl
    exact Keep.trN hK k1 (fun b hb e9 => hq (e9 ▸ hb))
  · rw [eI_rI, if_pos rfl, upd]
    by_cases c9 : j = m
    · rw [if_pos (c9.trans hx.symm), c9]; exact hv
    · rw [if_neg (fun w => c9 (w.trans hx))]; exact q3 j (by omega)
def fdI (a b c d e : Int32) (j : Nat) : Int32 := (fdW a b c d e j).toInt8.toInt32.toInt8.toInt32
def I_fdr (t : Nat) (a b c d e : Int32) (z : Nat → Nat) (R : Rb) (S : MM) (k : Nat) : KT := fun lo st S1 cs sl => ∃ q j, j + k = 20 ∧ R.Q.tp.length + 20 ≤ 32768 ∧ q ∉ mL S ∧ Keep (fun c => c = z 1) S S1 ∧ isO S1 17 q ∧ mN S1 q = 5 ∧ (∀ j, j < 5 → eI S1 q j = fiv a b c d e j) ∧ (∀ m, eI S1 (z 1) m = if R.Q.tp.length ≤ m ∧ m < R.Q.tp.length + j then fdI a b c d e (m - R.Q.tp.length) else eI S (z 1) m) ∧ lo = [(0, .inr (.inr (some t))), (6, .inr (.inr (some q))), (7, .inl (nI j))] ∧ st = [] ∧ cs = 1 ∧ sl = 5
def fdR (R : Rb) (a b c d e : Int32) : Rb := R.sQ (R.Q.sTp (R.Q.tp ++ vB (feedB a b c d e)))
def T_rfd0 : TR := fun Rc Rs av S cs sl K Kx => match av with
  | [.inr (.inr t_o), .inl a, .inl b, .inl c, .inl d, .inl e] => pa t_o fun t => (∃ (F : Nat → Nat × Nat) (z : Nat → Nat) (Y : Nat → Nat → Nat) (R : Rb) (kz : Nat → Nat), (MD S F t z Y R kz) ∧ cs + 1 ≤ Rc ∧ sl + 6 ≤ Rs ∧ ((∀ (S' : MM), (R.Q.tp.length + 20 ≤ 32768 ∧ mdQ S S' F t (fdR R a b c d e) kz) → K none S' (cs + 1) (sl + 6)) ∧ ((32768 < R.Q.tp.length + 20) → Kx 0 S (cs + 1) (sl + 6))))
  | _ => False
def sp_rfd0 (t : Nat) (a : Int32) (b : Int32) (c : Int32) (d : Int32) (e : Int32) (F : Nat → Nat × Nat) (z : Nat → Nat) (Y : Nat → Nat → Nat) (R : Rb) (kz : Nat → Nat) : Sp := (fun av S => av = [.inr (.inr (some t)), .inl a, .inl b, .inl c, .inl d, .inl e] ∧ (MD S F t z Y R kz), fun _ S => 1, fun _ S => 6, fun _ S rv S' => rv = none ∧ (R.Q.tp.length + 20 ≤ 32768 ∧ mdQ S S' F t (fdR R a b c d e) kz), fun _ S E S' => (E = 0 ∧ (32768 < R.Q.tp.length + 20) ∧ S' = S))
def tX14_feed0 : CD := [(0, .aload_n 0), (1, .getfield 152), (4, .bipush 20), (6, .iadd), (7, .ldc 15), (9, .if_icmp .le 11), (12, .new 156), (15, .dup), (16, .invokespecial 158), (19, .athrow), (20, .iconst 5), (21, .newarray .int), (23, .dup), (24, .iconst 0), (25, .iload_n 1), (26, .iastore), (27, .dup), (28, .iconst 1), (29, .iload_n 2), (30, .iastore), (31, .dup), (32, .iconst 2), (33, .iload_n 3), (34, .iastore), (35, .dup), (36, .iconst 3), (37, .iload 4), (39, .iastore), (40, .dup), (41, .iconst 4), (42, .iload 5), (44, .iastore), (45, .astore 6), (47, .iconst 0), (48, .istore 7), (50, .iload 7), (52, .bipush 20), (54, .if_icmp .ge 40), (57, .aload_n 0), (58, .getfield 16), (61, .aload_n 0), (62, .getfield 152), (65, .iload 7), (67, .iadd), (68, .aload 6), (70, .iload 7), (72, .iconst 4), (73, .idiv), (74, .iaload), (75, .bipush 24), (77, .bipush 8), (79, .iload 7), (81, .iconst 4), (82, .irem), (83, .imul), (84, .isub), (85, .ishr), (86, .i2b), (87, .bastore), (88, .iinc 7 1), (91, .goto (-41)), (94, .aload_n 0), (95, .dup), (96, .getfield 152), (99, .bipush 20), (101, .iadd), (102, .putfield 152), (105, .return_)]
set_option maxRecDepth 100000 in
theorem kX14_feed0 : chk cX14_feed0 tX14_feed0 = true := by decide +kernel

set_option maxRecDepth 100000 in
set_option maxHeartbeats 2000000 in
theorem c_rfd0 (l : Launch) (hlt : l.stackTraces = false) : ∀ (t : Nat) (a : Int32) (b : Int32) (c : Int32) (d : Int32) (e : Int32) (F : Nat → Nat × Nat) (z : Nat → Nat) (Y : Nat → Nat → Nat) (R : Rb) (kz : Nat → Nat), CtX l yX14_feed0 (Cond.code yX14_feed0 cX14_feed0 8 none) none 6 89 (sp_rfd0 t a b c d e F z Y R kz) := by
  intro t a b c d e F z Y R kz
  refine CtX.of hlt (fX14, nX14, aX14, iX14, lX14, [], qX14, gX14, thX14) false tX14_feed0 (fun _ S => look [(27, ([0,1,2,3,4,5], I_fc 1 t a b c d e R S)), (31, ([0,1,2,3,4,5], I_fc 2 t a b c d e R S)), (35, ([0,1,2,3,4,5], I_fc 3 t a b c d e R S)), (40, ([0,1,2,3,4,5], I_fc 4 t a b c d e R S)), (45, ([0,1,2,3,4,5], I_fc 5 t a b c d e R S)), (50, ([0,6,7], I_fdr t a b c d e z R S))]) (by decide) (by decide) kX14_feed0 ⟨_, _, rfl⟩ fX14_ok nX14_ok aX14_ok iX14_ok lX14_ok (fun _ _ _ _ _ _ _ _ _ _ _ _ _ _ _ _ _ _ => no_all) qX14_ok gX14_ok (fun q hq => ⟨thX14_ok q hq, by decide, by decide⟩) ?_ ?_
  · rintro _ S ⟨rfl, hp⟩
    refine ⟨Nat.le_of_ble_eq_true rfl, 300, ?_⟩
    show (isO S 15 t ∧ ((((mI S 1502 t) + (20 : Int32)) ≤ (32768 : Int32) → (¬ (5 : Int32) < 0 ∧ (5 : Int32).toNatClampNeg * 8 ≤ 536870912 ∧ 0 + 1 ≤ 1 ∧ 0 + (5 : Int32).toNatClampNeg ≤ 6 ∧ ∀ q_1, q_1 ∉ mL S → (isO (nA S q_1 17 (5 : Int32).toNatClampNeg) 17 q_1 ∧ inR (nA S q_1 17 (5 : Int32).toNatClampNeg) q_1 (0 : Int32) ∧ (∃ k1, I_fc 1 t a b c d e R S k1 [(0, .inr (.inr (some t))), (1, .inl a), (2, .inl b), (3, .inl c), (4, .inl d), (5, .inl e)] [.inr (.inr (some q_1))] (rI (nA S q_1 17 (5 : Int32).toNatClampNeg) q_1 (upd (eI (nA S q_1 17 (5 : Int32).toNatClampNeg) q_1) (0 : Int32).toNatClampNeg a)) (0 + 1) (0 + (5 : Int32).toNatClampNeg))))) ∧ (¬ ((mI S 1502 t) + (20 : Int32)) ≤ (32768 : Int32) → (mthr (sp_rfd0 t a b c d e F z Y R kz) [.inr (.inr (some t)), .inl a, .inl b, .inl c, .inl d, .inl e] S 0 S (0 + 1) (0 + 6)))))
    obtain ⟨t1, t2, t3⟩ := hp 3
    rw [t1, show nI R.Q.tp.length + 20 = nI (R.Q.tp.length + 20) from nI_add _ 20, show Int32.toNatClampNeg 5 = 5 from rfl]
    refine ⟨(hp 0).1, if_le (b := 32768) (by omega) (by decide) (fun w => ⟨by decide, by decide, by decide, by decide, fun q hq => ⟨isO_nA_self, ?_, ?_⟩⟩) (fun w => ⟨⟨rfl, w, rfl⟩, Nat.le_of_ble_eq_true rfl, Nat.le_of_ble_eq_true rfl⟩)⟩
    · exact inRl (i := 0) (by rw [mN_nA, if_pos rfl]; decide) (by decide)
    · obtain ⟨k1, -, h⟩ := fc_st (m := 0) (t := t) (a := a) (b := b) (c := c) (d := d) (e := e) (R := R) (v := a) (x := 0) (by decide) rfl w hq (Keep.nA (P := fun _ => False) Keep.rf hq) isO_nA_self (by rw [mN_nA, if_pos rfl]) (fun j hj => absurd hj (Nat.not_lt_zero j)) rfl rfl
      exact ⟨k1, h⟩
  · intro av S hpre pc I hI k lo st S1 cs sl h
    obtain ⟨rfl, hp⟩ := hpre
    have hm := look_in hI
    simp only [List.mem_cons, List.not_mem_nil, or_false] at hm
    rcases hm with hm | hm | hm | hm | hm | hm
    · cases hm
      obtain ⟨q, hk9, hl, hq, hK, q1, q2, q3, rfl, rfl, rfl, rfl⟩ := h
      subst hk9
      refine ⟨300, ?_⟩
      show (isO S1 17 q ∧ inR S1 q (1 : Int32) ∧ (∃ k1, k1 < (100 - 1) ∧ I_fc 2 t a b c d e R S k1 [(0, .inr (.inr (some t))), (1, .inl a), (2, .inl b), (3, .inl c), (4, .inl d), (5, .inl e)] [.inr (.inr (some q))] (rI S1 q (upd (eI S1 q) (1 : Int32).toNatClampNeg b)) 1 5))
      exact ⟨q1, inRl (i := 1) (by rw [q2]; decide) (by decide), fc_st (by decide) rfl hl hq hK q1 q2 q3 rfl rfl⟩
    · cases hm
      obtain ⟨q, hk9, hl, hq, hK, q1, q2, q3, rfl, rfl, rfl, rfl⟩ := h
      subst hk9
      refine ⟨300, ?_⟩
      show (isO S1 17 q ∧ inR S1 q (2 : Int32) ∧ (∃ k1, k1 < (100 - 2) ∧ I_fc 3 t a b c d e R S k1 [(0, .inr (.inr (some t))), (1, .inl a), (2, .inl b), (3, .inl c), (4, .inl d), (5, .inl e)] [.inr (.inr (some q))] (rI S1 q (upd (eI S1 q) (2 : Int32).toNatClampNeg c)) 1 5))
      exact ⟨q1, inRl (i := 2) (by rw [q2]; decide) (by decide), fc_st (by decide) rfl hl hq hK q1 q2 q3 rfl rfl⟩
    · cases hm
      obtain ⟨q, hk9, hl, hq, hK, q1, q2, q3, rfl, rfl, rfl, rfl⟩ := h
      subst hk9
      refine ⟨300, ?_⟩
      show (isO S1 17 q ∧ inR S1 q (3 : Int32) ∧ (∃ k1, k1 < (100 - 3) ∧ I_fc 4 t a b c d e R S k1 [(0, .inr (.inr (some t))), (1, .inl a), (2, .inl b), (3, .inl c), (4, .inl d), (5, .inl e)] [.inr (.inr (some q))] (rI S1 q (upd (eI S1 q) (3 : Int32).toNatClampNeg d)) 1 5))
      exact ⟨q1, inRl (i := 3) (by rw [q2]; decide) (by decide), fc_st (by decide) rfl hl hq hK q1 q2 q3 rfl rfl⟩
    · cases hm
      obtain ⟨q, hk9, hl, hq, hK, q1, q2, q3, rfl, rfl, rfl, rfl⟩ := h
      subst hk9
      refine ⟨300, ?_⟩
      show (isO S1 17 q ∧ inR S1 q (4 : Int32) ∧ (∃ k1, k1 < (100 - 4) ∧ I_fc 5 t a b c d e R S k1 [(0, .inr (.inr (some t))), (1, .inl a), (2, .inl b), (3, .inl c), (4, .inl d), (5, .inl e)] [.inr (.inr (some q))] (rI S1 q (upd (eI S1 q) (4 : Int32).toNatClampNeg e)) 1 5))
      exact ⟨q1, inRl (i := 4) (by rw [q2]; decide) (by decide), fc_st (by decide) rfl hl hq hK q1 q2 q3 rfl rfl⟩
    · cases hm
      obtain ⟨q, hk9, hl, hq, hK, q1, q2, q3, rfl, rfl, rfl, rfl⟩ := h
      subst hk9
      refine ⟨300, ?_⟩
      show (∃ k1, k1 < (100 - 5) ∧ I_fdr t a b c d e z R S k1 [(0, .inr (.inr (some t))), (6, .inr (.inr (some q))), (7, .inl (0 : Int32))] [] S1 1 5)
      refine ⟨20, by decide, q, 0, rfl, hl, hq, hK.mono (fun b _ w => w.elim), q1, q2, q3, fun m => ?_, rfl, rfl, rfl, rfl⟩
      rw [if_neg (fun w => by omega), (hK.2.1 (z 1) (hp 1 1 (by decide)).2.2.1.1 id).2.2.2.1]
    · cases hm
      obtain ⟨q, j, hj, hl, hq, hK, q1, q2, q3, hT, rfl, rfl, rfl, rfl⟩ := h
      refine ⟨300, ?_⟩
      show (((20 : Int32) ≤ (nI j) → (isO S1 15 t ∧ (True ∧ (isO S1 15 t ∧ (([] : List MV) = [] ∧ mret none (sp_rfd0 t a b c d e F z Y R kz) [.inr (.inr (some t)), .inl a, .inl b, .inl c, .inl d, .inl e] S none (sI S1 1502 t ((mI S1 1502 t) + (20 : Int32))) 1 5))))) ∧ (¬ (20 : Int32) ≤ (nI j) → (isO S1 15 t ∧ (isO S1 15 t ∧ (¬ (4 : Int32) = 0 ∧ (∃ v_1 : Int32, (isO S1 17 q ∧ inR S1 q ((nI j) / (4 : Int32)) ∧ v_1 = eI S1 q ((nI j) / (4 : Int32)).toNatClampNeg ∨ q = (mQ S1).1 ∧ vp_in ((nI j) / (4 : Int32)) 16 ∧ v_1 = mRem ((nI j) / (4 : Int32)).toNatClampNeg) ∧ (¬ (4 : Int32) = 0 ∧ (pa (mR S1 1501 t) fun a_2 => ((isO S1 16 a_2 ∧ inR S1 a_2 ((mI S1 1502 t) + (nI j)) ∧ (∃ k1, k1 < k ∧ I_fdr t a b c d e z R S k1 [(0, .inr (.inr (some t))), (6, .inr (.inr (some q))), (7, .inl ((nI j) + (1 : Int32)))] [] (rI S1 a_2 (upd (eI S1 a_2) ((mI S1 1502 t) + (nI j)).toNatClampNeg (((v_1 >>> (((24 : Int32) - ((8 : Int32) * ((nI j) - (nI j) / (4 : Int32) * (4 : Int32)))) &&& 31)).toInt8.toInt32).toInt8.toInt32))) 1 5)) ∨ (isO S1 20 a_2 ∧ inR S1 a_2 ((mI S1 1502 t) + (nI j)) ∧ (∃ k1, k1 < k ∧ I_fdr t a b c d e z R S k1 [(0, .inr (.inr (some t))), (6, .inr (.inr (some q))), (7, .inl ((nI j) + (1 : Int32)))] [] (rI S1 a_2 (upd (eI S1 a_2) ((mI S1 1502 t) + (nI j)).toNatClampNeg (vp_nar .boolean ((v_1 >>> (((24 : Int32) - ((8 : Int32) * ((nI j) - (nI j) / (4 : Int32) * (4 : Int32)))) &&& 31)).toInt8.toInt32)))) 1 5)))))))))))
      have r1 := hp 1 1 (by decide)
      obtain ⟨t1, t2, t3⟩ := hp 3
      have nt : ¬ t = z 1 := fun e9 => by
        have h9 := (hp 0).2
        rw [e9, r1.2.1] at h9
        injection h9 with _ h9
        omega
      have kt := hK.2.1 t (hp 0).1.1 nt
      have ot : isO S1 15 t := hK.isO (hp 0).1
      have e02 : mI S1 1502 t = nI R.Q.tp.length := (kt.1 _).trans t1
      have m01 : mR S1 1501 t = some (z 1) := (kt.2.1 _).trans r1.1
      have o1 : isO S1 16 (z 1) := hK.isO r1.2.2.1
      have n1 : mN S1 (z 1) = 32768 := (hK.1 _ r1.2.2.1.1).2.2.trans r1.2.2.2
      have qz : q ≠ z 1 := fun e9 => hq (e9 ▸ r1.2.2.1.1)
      rw [e02]
      refine if_le (a := 20) (by decide) (by omega) (fun w => ⟨ot, trivial, ot, rfl, trivial, ⟨rfl, hl, ?_⟩, Nat.le_of_ble_eq_true rfl, Nat.le_of_ble_eq_true rfl⟩) (fun w => ?_)
      · have hj20 : j = 20 := by omega
        subst hj20
        have ln : (vB (feedB a b c d e)).length = 20 := rfl
        rw [show nI R.Q.tp.length + 20 = nI (R.Q.tp.length + 20) from nI_add _ 20]
        have K9 : Keep (fun c => c = t ∨ ∃ k, k ∈ [1] ∧ c = z k) S (sI S1 1502 t (nI (R.Q.tp.length + 20))) := Keep.sI (P := fun c => c = t ∨ ∃ k, k ∈ [1] ∧ c = z k) (hK.mono (fun b _ e9 => Or.inr ⟨1, by decide, e9⟩)) (Or.inl rfl)
        have q9 := hp.wr1 (S' := sI S1 1502 t (nI (R.Q.tp.length + 20))) [1] 3 (by decide) (by decide) K9 (fun f hf hn => by rw [mI_sI, if_neg (fun e9 => hn (by rw [e9.1]; rfl))]; exact kt.1 f) (fun f => kt.2.1 f)
        have M9 : MD (sI S1 1502 t (nI (R.Q.tp.length + 20))) F t z Y (fdR R a b c d e) kz := by
          intro i
          match i with
          | 3 =>
            show mI (sI S1 1502 t (nI (R.Q.tp.length + 20))) 1502 t = nI (R.Q.tp ++ vB (feedB a b c d e)).length ∧ (R.Q.tp ++ vB (feedB a b c d e)).length ≤ 32768 ∧ byR (sI S1 1502 t (nI (R.Q.tp.length + 20))) (z 1) (R.Q.tp ++ vB (feedB a b c d e))
            rw [List.length_append, ln, mI_sI, if_pos ⟨rfl, rfl⟩]
            refine ⟨rfl, hl, fun m => ?_, fun x hx => ?_, fun m hm => ?_⟩
            · show fits .byte (.int (eI S1 (z 1) m)) = true
              rw [hT m]
              split
              · exact pk_fb _
              · exact t3.1 m
            · rcases List.mem_append.1 hx with w9 | w9
              · exact t3.2.1 x w9
              · exact vB_lt _ x w9
            · show eI S1 (z 1) m &&& 255 = _
              rw [List.length_append, ln] at hm
              rw [hT m]
              by_cases c9 : R.Q.tp.length ≤ m
              · rw [if_pos ⟨c9, hm⟩]
                unfold fdI
                rw [b8_st, fdW_B a b c d e (by omega)]
                obtain ⟨m', rfl⟩ : ∃ m', m = R.Q.tp.length + m' := ⟨m - R.Q.tp.length, by omega⟩
                rw [Nat.add_sub_cancel_left, getD_app_r]
              · rw [if_neg (fun w9 => c9 w9.1), getD_app_l (by omega)]
                exact t3.2.2 m (by omega)
          | 0 => exact q9 0 (by decide)
          | 1 => exact q9 1 (by decide)
          | 2 => exact q9 2 (by decide)
          | 4 => exact q9 4 (by decide)
          | 5 => exact q9 5 (by decide)
          | 6 => exact q9 6 (by decide)
          | 7 => exact q9 7 (by decide)
          | 8 => exact q9 8 (by decide)
          | 9 => exact q9 9 (by decide)
          | 10 => exact q9 10 (by decide)
          | 11 => exact q9 11 (by decide)
          | 12 => exact q9 12 (by decide)
          | n + 13 => trivial
        refine ⟨F, z, Y, M9, fun _ _ => rfl, K9.mono (fun b _ w9 => ?_), ?_⟩
        · rcases w9 with e9 | ⟨k, k1, e9⟩
          · rw [e9, (hp 0).2]; exact Nat.le_refl _
          · rw [e9, List.mem_singleton.1 k1, r1.2.1]; exact Nat.le_refl _
        · rw [mI_sI, if_neg (fun e9 => absurd e9.1 (by decide))]; exact kt.1 _
      · obtain ⟨x1, x2⟩ := fdx j w
        rw [x2, x1, nI_add, nI_1, nI_clamp (show j / 4 < 2147483648 by omega), nI_clamp (show R.Q.tp.length + j < 2147483648 by omega)]
        refine ⟨ot, ot, by decide, _, Or.inl ⟨q1, inRn (N := 5) q2 (by omega) (by decide), rfl⟩, by decide, pa_i m01 (Or.inl ⟨o1, inRn (N := 32768) n1 (by omega) (by decide), k - 1, by omega, q, j + 1, by omega, hl, hq, ?_, q1, q2, fun i hi => ?_, fun m => ?_, rfl, rfl, rfl, rfl⟩)⟩
        · exact hK.tr (Keep.rI (P := fun c => c = z 1) Keep.rf rfl)
        · rw [eI_rI, if_neg qz]; exact q3 i hi
        · rw [eI_rI, if_pos rfl, upd, q3 (j / 4) (by omega)]
          by_cases c9 : m = R.Q.tp.length + j
          · rw [if_pos c9, if_pos (by omega), c9, Nat.add_sub_cancel_left]; rfl
          · rw [if_neg c9, hT m]
            by_cases c8 : R.Q.tp.length ≤ m ∧ m < R.Q.tp.length + j
            · rw [if_pos c8, if_pos (by omega)]
            · rw [if_neg c8, if_neg (by omega)]
theorem u_rfd0 (l : Launch) (hlt : l.stackTraces = false) : UsX l yX14_feed0 (Cond.code yX14_feed0 cX14_feed0 8 none) none 6 89 15 T_rfd0 := by
  intro Rc Rs av S cs sl K Kx h
  unfold T_rfd0 at h
  split at h
  · rename_i t_o a b c d e
    obtain ⟨t, rfl, h_1⟩ := pa_of h
    obtain ⟨F, z, Y, R, kz, hp, hc, hs, hk, hx0⟩ := h_1
    refine ⟨(sp_rfd0 t a b c d e F z Y R kz), c_rfd0 l hlt t a b c d e F z Y R kz, fun _ _ h9 => ⟨_, _, h9.1, (h9.2 0).1⟩, ⟨rfl, hp⟩, hc, hs, fun S' h8 => by
      obtain ⟨-, h8⟩ := h8
      exact hk _ h8, fun _ _ q => by
      rcases q with ⟨rfl, q⟩
      · obtain ⟨q, rfl⟩ := q
        exact hx0 q⟩
  · exact h.elim
