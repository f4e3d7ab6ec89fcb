/-! ===== PatchReader.openColumns ===== -/
/-- the reader in the memory: its packer, its six cursors, its row of ids, its row of found parents -/
def RD (S : MM) (F : Nat → Nat × Nat) (j r pk : Nat) (cu : Nat → Nat) (ids fnd : Nat) : Prop := isO S 9 r ∧ F r = (j, 1) ∧ mR S 900 r = some pk ∧ (∀ k, k < 6 → mR S (901 + k) r = some (cu k) ∧ isO S 3 (cu k) ∧ F (cu k) = (j, 2 + k)) ∧ mR S 907 r = some ids ∧ isO S 17 ids ∧ mN S ids = 256 ∧ F ids = (j, 8) ∧ mR S 908 r = some fnd ∧ isO S 23 fnd ∧ mN S fnd = 16 ∧ F fnd = (j, 9) ∧ j ≠ 0
section RDS
variable {S S' : MM} {F : Nat → Nat × Nat} {j r pk ids fnd : Nat} {cu : Nat → Nat} {P : Nat → Prop}
theorem RD.keep (h : RD S F j r pk cu ids fnd) (hk : Keep P S S') (hr : ∀ q, q < 909 → mR S' q r = mR S q r) : RD S' F j r pk cu ids fnd := by
  obtain ⟨a1, a2, a3, a4, a5, a6, a7, a8, a9, a10, a11, a12, a13⟩ := h
  exact ⟨hk.isO a1, a2, (hr _ (by decide)).trans a3, fun k hk2 => ⟨(hr _ (by omega)).trans (a4 k hk2).1, hk.isO (a4 k hk2).2.1, (a4 k hk2).2.2⟩, (hr _ (by decide)).trans a5, hk.isO a6, (hk.1 ids a6.1).2.2.trans a7, a8, (hr _ (by decide)).trans a9, hk.isO a10, (hk.1 fnd a10.1).2.2.trans a11, a12, a13⟩
theorem RD.cne (h : RD S F j r pk cu ids fnd) {a b : Nat} (ha : a < 6) (hb : b < 6) (e : a ≠ b) : cu a ≠ cu b := fun q => e (by
  have h1 := (h.2.2.2.1 a ha).2.2
  rw [q, (h.2.2.2.1 b hb).2.2] at h1
  injection h1 with _ h2
  omega)
theorem RD.cr (h : RD S F j r pk cu ids fnd) {a : Nat} (ha : a < 6) : r ≠ cu a := isO_ne h.1 (h.2.2.2.1 a ha).2.1 (by decide)
end RDS
/-- where column k begins to be read -/
def clS (y : Nat → Nat) : Nat → Nat
  | 0 => 3
  | k + 1 => y k
def ClK (B : List Nat) (n : Nat) (x y : Nat → Nat) : Prop := ∀ k, k < n → spl B (B.length - 4) (clS y k) = some (x k, y k)
def Cols (B : List Nat) (x y : Nat → Nat) : Prop := ClK B 5 x y ∧ y 4 = B.length - 4
def CuC (cu : Nat → Nat) (b : Nat) : Prop := ∃ k, k < 6 ∧ b = cu k
def opQ (S S' : MM) (cu : Nat → Nat) (m : Nat) (B : List Nat) (v : Int32) : Prop := Keep (CuC cu) S S' ∧ ((v = 1 ∧ ∃ x y, Cols B x y ∧ ∀ k, k < 5 → Cu S' (cu (k + 1)) m (x k) (y k)) ∨ (v = 0 ∧ ∀ x y, ¬ Cols B x y))
theorem ClK.uniq {B : List Nat} {n : Nat} {x y x' y' : Nat → Nat} (h : ClK B n x y) (h' : ClK B n x' y') : ∀ k, k < n → x k = x' k ∧ y k = y' k := by
  intro k
  induction k with
  | zero =>
    intro hk
    have a := h 0 hk
    have b := h' 0 hk
    rw [show clS y 0 = clS y' 0 from rfl, b] at a
    injection a with a
    injection a with a1 a2
    exact ⟨a1.symm, a2.symm⟩
  | succ k ih =>
    intro hk
    have a := h (k + 1) hk
    have b := h' (k + 1) hk
    rw [show clS y (k + 1) = clS y' (k + 1) from (ih (by omega)).2, b] at a
    injection a with a
    injection a with a1 a2
    exact ⟨a1.symm, a2.symm⟩
theorem clS_cg {y y' : Nat → Nat} {k : Nat} (h : ∀ i, i < k → y i = y' i) : clS y k = clS y' k := by
  cases k with
  | zero => rfl
  | succ k => exact h k (Nat.lt_succ_self k)
def opX (k m : Nat) (cu : Nat → Nat) (B : List Nat) (S S1 : MM) : Prop := ∃ x y, ClK B k x y ∧ clS y k ≤ B.length - 4 ∧ (∀ i, i < k → Cu S1 (cu (i + 1)) m (x i) (y i)) ∧ Cu S1 (cu 0) m (clS y k) (B.length - 4) ∧ Keep (CuC cu) S S1
def I_op (k r m : Nat) (cu : Nat → Nat) (B : List Nat) (S : MM) (t : Nat) : KT := fun lo st S1 cs sl => t = 6 - k ∧ opX k m cu B S S1 ∧ lo = [(0, .inr (.inr (some r)))] ∧ st = [] ∧ cs = 0 ∧ sl = 0
section OPS
variable {S S1 : MM} {F : Nat → Nat × Nat} {j r pk ids fnd m d : Nat} {cu : Nat → Nat} {B : List Nat}
theorem RD.ncu (h : RD S F j r pk cu ids fnd) {b k : Nat} (hb : isO S k b) (hk : k ≠ 3) : ¬ CuC cu b := fun ⟨i, hi, e⟩ => isO_ne hb (h.2.2.2.1 i hi).2.1 hk e
theorem RD.kcu (h : RD S F j r pk cu ids fnd) (hk : Keep (CuC cu) S S1) : RD S1 F j r pk cu ids fnd := h.keep hk (fun q _ => (hk.2.1 r h.1.1 (h.ncu h.1 (by decide))).2.1 q)
theorem op_step (hR : RD S F j r pk cu ids fnd) (hB : By S m d B) {k : Nat} (hk : k < 5) (hQ : opX k m cu B S S1) : isO S1 9 r ∧ mR S1 901 r = some (cu 0) ∧ mR S1 (901 + (k + 1)) r = some (cu (k + 1)) ∧ ∃ p, (Cu S1 (cu 0) m p (B.length - 4) ∧ By S1 m d B ∧ isO S1 3 (cu (k + 1)) ∧ cu (k + 1) ≠ cu 0) ∧ ∀ v S2, splP S1 S2 (cu 0) (cu (k + 1)) m (B.length - 4) p B v → (v = 0 → opQ S S2 cu m B 0) ∧ (¬ v = 0 → opX (k + 1) m cu B S S2) := by
  obtain ⟨x, y, a1, a2, a3, a4, a5⟩ := hQ
  have hR1 := hR.kcu a5
  have n0 : cu (k + 1) ≠ cu 0 := hR.cne (by omega) (by omega) (by omega)
  have hB1 : By S1 m d B := hB.keep a5 (hR.ncu hB.1 (by decide)) (hR.ncu hB.2.2.1 (by decide))
  refine ⟨hR1.1, (hR1.2.2.2.1 0 (by decide)).1, (hR1.2.2.2.1 (k + 1) (by omega)).1, clS y k, ⟨a4, hB1, (hR1.2.2.2.1 (k + 1) (by omega)).2.1, n0⟩, fun v S2 hs => ?_⟩
  have c0 : CuC cu (cu 0) := ⟨0, by decide, rfl⟩
  have ck : CuC cu (cu (k + 1)) := ⟨k + 1, by omega, rfl⟩
  rcases hs with ⟨hv, x', y', e1, e2⟩ | ⟨hv, e1, e2⟩
  · refine ⟨fun z => absurd (hv.symm.trans z) (by decide), fun _ => ?_⟩
    have ks : Keep (fun b => b = cu 0 ∨ b = cu (k + 1)) S1 S2 := by
      rw [e2]
      exact Keep.sI (P := fun b => b = cu 0 ∨ b = cu (k + 1)) (Keep.sI (P := fun b => b = cu 0 ∨ b = cu (k + 1)) (Keep.sI (P := fun b => b = cu 0 ∨ b = cu (k + 1)) (Keep.sR (P := fun b => b = cu 0 ∨ b = cu (k + 1)) (Keep.sI (P := fun b => b = cu 0 ∨ b = cu (k + 1)) Keep.rf (Or.inl rfl)) (Or.inr rfl)) (Or.inr rfl)) (Or.inr rfl)) (Or.inl rfl)
    have sl := spl_le a2 e1
    have uy : ∀ i, i < k → updN y k y' i = y i := fun i hi => if_neg (by omega)
    have ux : ∀ i, i < k → updN x k x' i = x i := fun i hi => if_neg (by omega)
    have sy : updN y k y' k = y' := if_pos rfl
    have sx : updN x k x' k = x' := if_pos rfl
    have cy : ∀ i, i ≤ k → clS (updN y k y') i = clS y i := fun i hi => clS_cg (fun q hq => uy q (by omega))
    refine ⟨updN x k x', updN y k y', fun i hi => ?_, by show updN y k y' k ≤ _; rw [sy]; exact sl.2.2, fun i hi => ?_, ?_, a5.trN ks (fun b _ z => z.elim (fun e => e ▸ c0) (fun e => e ▸ ck))⟩
    · rcases Nat.lt_or_ge i k with q | q
      · rw [cy i (by omega), ux i q, uy i q]; exact a1 i q
      · rw [show i = k from by omega, cy k (Nat.le_refl _), sx, sy]; exact e1
    · rcases Nat.lt_or_ge i k with q | q
      · rw [ux i q, uy i q]
        exact (a3 i q).keep ks (fun z => z.elim (fun e => hR.cne (by omega) (by omega) (by omega) e) (fun e => hR.cne (a := i + 1) (b := k + 1) (by omega) (by omega) (by omega) e))
      · rw [show i = k from by omega, sx, sy]
        refine ⟨ks.isO (hR1.2.2.2.1 (k + 1) (by omega)).2.1, ?_, ?_, ?_, sl.2.1, by have := a4.2.2.2.2.2; omega⟩
        · rw [e2, mR_sI, mR_sI, mR_sI, mR_sR, if_pos ⟨rfl, rfl⟩]
        · rw [e2, mI_sI, if_neg (fun z => n0 z.2), mI_sI, if_neg (fun z => absurd z.1 (by decide)), mI_sI, if_pos ⟨rfl, rfl⟩]
        · rw [e2, mI_sI, if_neg (fun z => n0 z.2), mI_sI, if_pos ⟨rfl, rfl⟩]
    · show Cu S2 (cu 0) m (updN y k y' k) (B.length - 4)
      rw [sy]
      refine ⟨ks.isO a4.1, ?_, ?_, ?_, sl.2.2, a4.2.2.2.2.2⟩
      · rw [e2, mR_sI, mR_sI, mR_sI, mR_sR, if_neg (fun z => n0 z.2.symm), mR_sI]; exact a4.2.1
      · rw [e2, mI_sI, if_pos ⟨rfl, rfl⟩]
      · rw [e2, mI_sI, if_neg (fun z => absurd z.1 (by decide)), mI_sI, if_neg (fun z => n0 z.2.symm), mI_sI, if_neg (fun z => n0 z.2.symm), mI_sR, mI_sI, if_neg (fun z => absurd z.1 (by decide))]; exact a4.2.2.2.1
  · refine ⟨fun _ => ⟨?_, Or.inr ⟨rfl, fun x' y' hc => ?_⟩⟩, fun z => absurd hv z⟩
    · rw [e2]
      exact Keep.sI (P := CuC cu) a5 c0
    · have u := ClK.uniq (n := k) a1 (fun i hi => hc.1 i (by omega))
      have e3 := hc.1 k hk
      rw [← clS_cg (y := y) (fun i hi => (u i hi).2), e1] at e3
      cases e3
end OPS
def T_rop : TR := fun Rc Rs av S cs sl K _Kx => match av with
  | [.inr (.inr r_o), .inr (.inr m_o)] => pa r_o fun r => (pa m_o fun m => (∃ (F : Nat → Nat × Nat) (j pk : Nat) (cu : Nat → Nat) (ids fnd d : Nat) (B : List Nat), (RD S F j r pk cu ids fnd ∧ By S m d B ∧ 7 ≤ B.length ∧ B.length ≤ 32768 ∧ (F m).1 ≠ j ∧ (F d).1 ≠ j) ∧ cs ≤ Rc ∧ sl ≤ Rs ∧ (∀ (v : Int32) (S' : MM), (opQ S S' cu m B v) → K (some (.inl v)) S' cs sl)))
  | _ => False
def sp_rop (r : Nat) (m : Nat) (F : Nat → Nat × Nat) (j pk : Nat) (cu : Nat → Nat) (ids fnd d : Nat) (B : List Nat) : Sp := (fun av S => av = [.inr (.inr (some r)), .inr (.inr (some m))] ∧ (RD S F j r pk cu ids fnd ∧ By S m d B ∧ 7 ≤ B.length ∧ B.length ≤ 32768 ∧ (F m).1 ≠ j ∧ (F d).1 ≠ j), fun _ S => 0, fun _ S => 0, fun _ S rv S' => ∃ v, rv = (some (.inl v)) ∧ (opQ S S' cu m B v), fun _ _ _ _ => False)
def tX8_openColumns : CD := [(0, .aload_n 0), (1, .getfield 12), (4, .aload_n 1), (5, .iconst 3), (6, .aload_n 1), (7, .getfield 111), (10, .iconst 4), (11, .isub), (12, .invokevirtual 112), (15, .aload_n 0), (16, .getfield 12), (19, .aload_n 0), (20, .getfield 18), (23, .invokevirtual 116), (26, .ifCond .eq 73), (29, .aload_n 0), (30, .getfield 12), (33, .aload_n 0), (34, .getfield 21), (37, .invokevirtual 116), (40, .ifCond .eq 59), (43, .aload_n 0), (44, .getfield 12), (47, .aload_n 0), (48, .getfield 24), (51, .invokevirtual 116), (54, .ifCond .eq 45), (57, .aload_n 0), (58, .getfield 12), (61, .aload_n 0), (62, .getfield 27), (65, .invokevirtual 116), (68, .ifCond .eq 31), (71, .aload_n 0), (72, .getfield 12), (75, .aload_n 0), (76, .getfield 30), (79, .invokevirtual 116), (82, .ifCond .eq 17), (85, .aload_n 0), (86, .getfield 12), (89, .invokevirtual 119), (92, .ifCond .eq 7), (95, .iconst 1), (96, .goto 4), (99, .iconst 0), (100, .ireturn)]
set_option maxRecDepth 100000 in
theorem kX8_openColumns : chk cX8_openColumns tX8_openColumns = true := by decide +kernel
theorem vX8_openColumns_112 : ∀ w ∈ ([.methodLink RX8 112 yX2_open, .instanceMethod yX2_open, .selects yX2_open.cls yX2_open yX2_open, .initialized yX2_open.cls, .code yX2_open cX2_open 4 none] : List Cond), w ∈ lw_good := List.forall_mem_cons.mpr ⟨mgd 1500 (by decide +kernel) (by decide +kernel), List.forall_mem_cons.mpr ⟨mgd 1478 (by decide +kernel) (by decide +kernel), List.forall_mem_cons.mpr ⟨mgd 1479 (by decide +kernel) (by decide +kernel), List.forall_mem_cons.mpr ⟨mgd 131 (by decide +kernel) (by decide +kernel), List.forall_mem_cons.mpr ⟨mgd 1480 (by decide +kernel) (by decide +kernel), fun _ h => absurd h List.not_mem_nil⟩⟩⟩⟩⟩
theorem vX8_openColumns_116 : ∀ w ∈ ([.methodLink RX8 116 yX2_splitTo, .instanceMethod yX2_splitTo, .selects yX2_splitTo.cls yX2_splitTo yX2_splitTo, .initialized yX2_splitTo.cls, .code yX2_splitTo cX2_splitTo 3 (some .boolean)] : List Cond), w ∈ lw_good := List.forall_mem_cons.mpr ⟨mgd 1501 (by decide +kernel) (by decide +kernel), List.forall_mem_cons.mpr ⟨mgd 1502 (by decide +kernel) (by decide +kernel), List.forall_mem_cons.mpr ⟨mgd 1503 (by decide +kernel) (by decide +kernel), List.forall_mem_cons.mpr ⟨mgd 131 (by decide +kernel) (by decide +kernel), List.forall_mem_cons.mpr ⟨mgd 1504 (by decide +kernel) (by decide +kernel), fun _ h => absurd h List.not_mem_nil⟩⟩⟩⟩⟩
theorem vX8_openColumns_119 : ∀ w ∈ ([.methodLink RX8 119 yX2_isDone, .instanceMethod yX2_isDone, .selects yX2_isDone.cls yX2_isDone yX2_isDone, .initialized yX2_isDone.cls, .code yX2_isDone cX2_isDone 1 (some .boolean)] : List Cond), w ∈ lw_good := List.forall_mem_cons.mpr ⟨mgd 1507 (by decide +kernel) (by decide +kernel), List.forall_mem_cons.mpr ⟨mgd 1487 (by decide +kernel) (by decide +kernel), List.forall_mem_cons.mpr ⟨mgd 1488 (by decide +kernel) (by decide +kernel), List.forall_mem_cons.mpr ⟨mgd 131 (by decide +kernel) (by decide +kernel), List.forall_mem_cons.mpr ⟨mgd 1489 (by decide +kernel) (by decide +kernel), fun _ h => absurd h List.not_mem_nil⟩⟩⟩⟩⟩
set_option maxRecDepth 100000 in
set_option maxHeartbeats 2000000 in
theorem c_rop (l : Launch) : ∀ (r : Nat) (m : Nat) (F : Nat → Nat × Nat) (j pk : Nat) (cu : Nat → Nat) (ids fnd d : Nat) (B : List Nat), Ct l yX8_openColumns cX8_openColumns 2 (some .boolean) 3 66 (sp_rop r m F j pk cu ids fnd d B) := by
  intro r m F j pk cu ids fnd d B
  refine Ct.of (fX8, nX8, aX8, iX8, lX8, [(112, 0, 4, 0, T_copn), (116, 0, 2, 1, T_cspl), (119, 0, 1, 1, T_cdone)], qX8, gX8, []) false tX8_openColumns (fun _ S => look [(15, ([0], I_op 0 r m cu B S)), (29, ([0], I_op 1 r m cu B S)), (43, ([0], I_op 2 r m cu B S)), (57, ([0], I_op 3 r m cu B S)), (71, ([0], I_op 4 r m cu B S)), (85, ([0], I_op 5 r m cu B S))]) (by decide) (by decide) kX8_openColumns ⟨_, _, rfl⟩ fX8_ok nX8_ok aX8_ok iX8_ok lX8_ok (fun p e R s m args below meth c Q D cy z r A C hR1 hR2 => List.forall_mem_cons.mpr ⟨cOK_use (fun _ _ _ _ _ _ _ _ h => let ⟨sp, h1, h2, h3⟩ := u_copn l _ _ _ _ _ _ _ _ h; ⟨sp, cOK_V C h1 vX8_openColumns_112 ⟨by decide, by decide, by decide +kernel⟩ ⟨by rw [hR1]; decide, by rw [hR2]; decide⟩ (k := 3) (T := TX2) (N := 3) rfl (by decide) h2, h3⟩), List.forall_mem_cons.mpr ⟨cOK_use (fun _ _ _ _ _ _ _ _ h => let ⟨sp, h1, h2, h3⟩ := u_cspl l _ _ _ _ _ _ _ _ h; ⟨sp, cOK_V C h1 vX8_openColumns_116 ⟨by decide, by decide, by decide +kernel⟩ ⟨by rw [hR1]; decide, by rw [hR2]; decide⟩ (k := 3) (T := TX2) (N := 3) rfl (by decide) h2, h3⟩), List.forall_mem_cons.mpr ⟨cOK_use (fun _ _ _ _ _ _ _ _ h => let ⟨sp, h1, h2, h3⟩ := u_cdone l _ _ _ _ _ _ _ _ h; ⟨sp, cOK_V C h1 vX8_openColumns_119 ⟨by decide, by decide, by decide +kernel⟩ ⟨by rw [hR1]; decide, by rw [hR2]; decide⟩ (k := 3) (T := TX2) (N := 3) rfl (by decide) h2, h3⟩), fun _ h => absurd h List.not_mem_nil⟩⟩⟩) qX8_ok gX8_ok rfl ?_ ?_
  · rintro _ S ⟨rfl, hp⟩
    refine ⟨Nat.le_of_ble_eq_true rfl, 300, ?_⟩
    show (isO S 9 r ∧ (isO S 2 m ∧ (0 = 0 ∧ ((pa (mR S 901 r) fun a_1 => ((isO S 3 a_1) ∧ 0 ≤ 0 ∧ 0 ≤ 0 ∧ ((∃ k1, I_op 0 r m cu B S k1 [(0, .inr (.inr (some r)))] [] (sI (sI (sR S 300 a_1 (some m)) 301 a_1 (3 : Int32)) 302 a_1 ((mI S 201 m) - (4 : Int32))) 0 0))))))))
    obtain ⟨hR, hB, b1, b2, b3, b4⟩ := hp
    have c0 := hR.2.2.2.1 0 (by decide)
    have e4 : mI S 201 m - 4 = nI (B.length - 4) := by rw [hB.2.2.2.1]; exact pk_sub (a := B.length) (b := 4) (show 4 ≤ B.length from Nat.le_trans (by decide) b1)
    rw [e4]
    refine ⟨hR.1, hB.1, rfl, pa_i c0.1 ⟨c0.2.1, Nat.le_refl _, Nat.le_refl _, 6 - 0, rfl, ⟨fun _ => 0, fun _ => 0, fun k hk => absurd hk (Nat.not_lt_zero k), by show 3 ≤ B.length - 4; omega, fun k hk => absurd hk (Nat.not_lt_zero k), Cu.opn (p := 3) c0.2.1 (show 3 ≤ B.length - 4 from by omega) (by omega), ?_⟩, rfl, rfl, rfl, rfl⟩⟩
    exact Keep.sI (P := CuC cu) (Keep.sI (P := CuC cu) (Keep.sR (P := CuC cu) Keep.rf ⟨0, by decide, rfl⟩) ⟨0, by decide, rfl⟩) ⟨0, by decide, rfl⟩
  · intro av S hpre pc I hI k lo st S1 cs sl h
    obtain ⟨rfl, hp⟩ := hpre
    have hm := look_in hI
    simp only [List.mem_cons, List.not_mem_nil, or_false] at hm
    rcases hm with hm | hm | hm | hm | hm | hm
    · cases hm
      obtain ⟨rfl, hQ, rfl, rfl, rfl, rfl⟩ := h
      obtain ⟨s1, s2, s3, p, s4, s5⟩ := op_step hp.1 hp.2.1 (by decide : 0 < 5) hQ
      refine ⟨300, ?_⟩
      show (isO S1 9 r ∧ (isO S1 9 r ∧ (0 = 0 ∧ ((pa (mR S1 901 r) fun a_1 => ((pa (mR S1 902 r) fun a_2 => (∃ (s_3 d_4 p_5 q_6 : Nat) (B_7 : List Nat), (Cu S1 a_1 s_3 p_5 q_6 ∧ By S1 s_3 d_4 B_7 ∧ isO S1 3 a_2 ∧ a_2 ≠ a_1) ∧ 0 ≤ 0 ∧ 0 ≤ 0 ∧ (∀ (x_9 : Int32) (S_8 : MM), (splP S1 S_8 a_1 a_2 s_3 q_6 p_5 B_7 x_9) → ((x_9 = 0 → (([] : List MV) = [] ∧ mret (some .boolean) (sp_rop r m F j pk cu ids fnd d B) [.inr (.inr (some r)), .inr (.inr (some m))] S (some (.inl (0 : Int32))) S_8 0 0)) ∧ (¬ x_9 = 0 → (∃ k1, k1 < 6 - 0 ∧ I_op 1 r m cu B S k1 [(0, .inr (.inr (some r)))] [] S_8 0 0))))))))))))
      refine ⟨s1, s1, rfl, pa_i s2 (pa_i s3 ⟨m, d, p, B.length - 4, B, s4, Nat.le_refl _, Nat.le_refl _, fun v S2 hs => ⟨fun z => ⟨rfl, Or.inl rfl, ⟨0, rfl, (s5 v S2 hs).1 z⟩, Nat.le_refl _, Nat.le_refl _⟩, fun z => ⟨6 - 1, (by decide : 6 - 1 < 6 - 0), rfl, (s5 v S2 hs).2 z, rfl, rfl, rfl, rfl⟩⟩⟩)⟩
    · cases hm
      obtain ⟨rfl, hQ, rfl, rfl, rfl, rfl⟩ := h
      obtain ⟨s1, s2, s3, p, s4, s5⟩ := op_step hp.1 hp.2.1 (by decide : 1 < 5) hQ
      refine ⟨300, ?_⟩
      show (isO S1 9 r ∧ (isO S1 9 r ∧ (0 = 0 ∧ ((pa (mR S1 901 r) fun a_1 => ((pa (mR S1 903 r) fun a_2 => (∃ (s_3 d_4 p_5 q_6 : Nat) (B_7 : List Nat), (Cu S1 a_1 s_3 p_5 q_6 ∧ By S1 s_3 d_4 B_7 ∧ isO S1 3 a_2 ∧ a_2 ≠ a_1) ∧ 0 ≤ 0 ∧ 0 ≤ 0 ∧ (∀ (x_9 : Int32) (S_8 : MM), (splP S1 S_8 a_1 a_2 s_3 q_6 p_5 B_7 x_9) → ((x_9 = 0 → (([] : List MV) = [] ∧ mret (some .boolean) (sp_rop r m F j pk cu ids fnd d B) [.inr (.inr (some r)), .inr (.inr (some m))] S (some (.inl (0 : Int32))) S_8 0 0)) ∧ (¬ x_9 = 0 → (∃ k1, k1 < 6 - 1 ∧ I_op 2 r m cu B S k1 [(0, .inr (.inr (some r)))] [] S_8 0 0))))))))))))
      refine ⟨s1, s1, rfl, pa_i s2 (pa_i s3 ⟨m, d, p, B.length - 4, B, s4, Nat.le_refl _, Nat.le_refl _, fun v S2 hs => ⟨fun z => ⟨rfl, Or.inl rfl, ⟨0, rfl, (s5 v S2 hs).1 z⟩, Nat.le_refl _, Nat.le_refl _⟩, fun z => ⟨6 - 2, (by decide : 6 - 2 < 6 - 1), rfl, (s5 v S2 hs).2 z, rfl, rfl, rfl, rfl⟩⟩⟩)⟩
    · cases hm
      obtain ⟨rfl, hQ, rfl, rfl, rfl, rfl⟩ := h
      obtain ⟨s1, s2, s3, p, s4, s5⟩ := op_step hp.1 hp.2.1 (by decide : 2 < 5) hQ
      refine ⟨300, ?_⟩
      show (isO S1 9 r ∧ (isO S1 9 r ∧ (0 = 0 ∧ ((pa (mR S1 901 r) fun a_1 => ((pa (mR S1 904 r) fun a_2 => (∃ (s_3 d_4 p_5 q_6 : Nat) (B_7 : List Nat), (Cu S1 a_1 s_3 p_5 q_6 ∧ By S1 s_3 d_4 B_7 ∧ isO S1 3 a_2 ∧ a_2 ≠ a_1) ∧ 0 ≤ 0 ∧ 0 ≤ 0 ∧ (∀ (x_9 : Int32) (S_8 : MM), (splP S1 S_8 a_1 a_2 s_3 q_6 p_5 B_7 x_9) → ((x_9 = 0 → (([] : List MV) = [] ∧ mret (some .boolean) (sp_rop r m F j pk cu ids fnd d B) [.inr (.inr (some r)), .inr (.inr (some m))] S (some (.inl (0 : Int32))) S_8 0 0)) ∧ (¬ x_9 = 0 → (∃ k1, k1 < 6 - 2 ∧ I_op 3 r m cu B S k1 [(0, .inr (.inr (some r)))] [] S_8 0 0))))))))))))
      refine ⟨s1, s1, rfl, pa_i s2 (pa_i s3 ⟨m, d, p, B.length - 4, B, s4, Nat.le_refl _, Nat.le_refl _, fun v S2 hs => ⟨fun z => ⟨rfl, Or.inl rfl, ⟨0, rfl, (s5 v S2 hs).1 z⟩, Nat.le_refl _, Nat.le_refl _⟩, fun z => ⟨6 - 3, (by decide : 6 - 3 < 6 - 2), rfl, (s5 v S2 hs).2 z, rfl, rfl, rfl, rfl⟩⟩⟩)⟩
    · cases hm
      obtain ⟨rfl, hQ, rfl, rfl, rfl, rfl⟩ := h
      obtain ⟨s1, s2, s3, p, s4, s5⟩ := op_step hp.1 hp.2.1 (by decide : 3 < 5) hQ
      refine ⟨300, ?_⟩
      show (isO S1 9 r ∧ (isO S1 9 r ∧ (0 = 0 ∧ ((pa (mR S1 901 r) fun a_1 => ((pa (mR S1 905 r) fun a_2 => (∃ (s_3 d_4 p_5 q_6 : Nat) (B_7 : List Nat), (Cu S1 a_1 s_3 p_5 q_6 ∧ By S1 s_3 d_4 B_7 ∧ isO S1 3 a_2 ∧ a_2 ≠ a_1) ∧ 0 ≤ 0 ∧ 0 ≤ 0 ∧ (∀ (x_9 : Int32) (S_8 : MM), (splP S1 S_8 a_1 a_2 s_3 q_6 p_5 B_7 x_9) → ((x_9 = 0 → (([] : List MV) = [] ∧ mret (some .boolean) (sp_rop r m F j pk cu ids fnd d B) [.inr (.inr (some r)), .inr (.inr (some m))] S (some (.inl (0 : Int32))) S_8 0 0)) ∧ (¬ x_9 = 0 → (∃ k1, k1 < 6 - 3 ∧ I_op 4 r m cu B S k1 [(0, .inr (.inr (some r)))] [] S_8 0 0))))))))))))
      refine ⟨s1, s1, rfl, pa_i s2 (pa_i s3 ⟨m, d, p, B.length - 4, B, s4, Nat.le_refl _, Nat.le_refl _, fun v S2 hs => ⟨fun z => ⟨rfl, Or.inl rfl, ⟨0, rfl, (s5 v S2 hs).1 z⟩, Nat.le_refl _, Nat.le_refl _⟩, fun z => ⟨6 - 4, (by decide : 6 - 4 < 6 - 3), rfl, (s5 v S2 hs).2 z, rfl, rfl, rfl, rfl⟩⟩⟩)⟩
    · cases hm
      obtain ⟨rfl, hQ, rfl, rfl, rfl, rfl⟩ := h
      obtain ⟨s1, s2, s3, p, s4, s5⟩ := op_step hp.1 hp.2.1 (by decide : 4 < 5) hQ
      refine ⟨300, ?_⟩
      show (isO S1 9 r ∧ (isO S1 9 r ∧ (0 = 0 ∧ ((pa (mR S1 901 r) fun a_1 => ((pa (mR S1 906 r) fun a_2 => (∃ (s_3 d_4 p_5 q_6 : Nat) (B_7 : List Nat), (Cu S1 a_1 s_3 p_5 q_6 ∧ By S1 s_3 d_4 B_7 ∧ isO S1 3 a_2 ∧ a_2 ≠ a_1) ∧ 0 ≤ 0 ∧ 0 ≤ 0 ∧ (∀ (x_9 : Int32) (S_8 : MM), (splP S1 S_8 a_1 a_2 s_3 q_6 p_5 B_7 x_9) → ((x_9 = 0 → (([] : List MV) = [] ∧ mret (some .boolean) (sp_rop r m F j pk cu ids fnd d B) [.inr (.inr (some r)), .inr (.inr (some m))] S (some (.inl (0 : Int32))) S_8 0 0)) ∧ (¬ x_9 = 0 → (∃ k1, k1 < 6 - 4 ∧ I_op 5 r m cu B S k1 [(0, .inr (.inr (some r)))] [] S_8 0 0))))))))))))
      refine ⟨s1, s1, rfl, pa_i s2 (pa_i s3 ⟨m, d, p, B.length - 4, B, s4, Nat.le_refl _, Nat.le_refl _, fun v S2 hs => ⟨fun z => ⟨rfl, Or.inl rfl, ⟨0, rfl, (s5 v S2 hs).1 z⟩, Nat.le_refl _, Nat.le_refl _⟩, fun z => ⟨6 - 5, (by decide : 6 - 5 < 6 - 4), rfl, (s5 v S2 hs).2 z, rfl, rfl, rfl, rfl⟩⟩⟩)⟩
    · cases hm
      obtain ⟨rfl, hQ, rfl, rfl, rfl, rfl⟩ := h
      obtain ⟨x, y, a1, a2, a3, a4, a5⟩ := hQ
      have hR1 := hp.1.kcu a5
      have a2 : y 4 ≤ B.length - 4 := a2
      refine ⟨300, ?_⟩
      show (isO S1 9 r ∧ (0 = 0 ∧ ((pa (mR S1 901 r) fun a_1 => (∃ (s_2 p_3 q_4 : Nat), (Cu S1 a_1 s_2 p_3 q_4) ∧ 0 ≤ 0 ∧ 0 ≤ 0 ∧ ((((tf (q_4 ≤ p_3)) = 0 → (([] : List MV) = [] ∧ mret (some .boolean) (sp_rop r m F j pk cu ids fnd d B) [.inr (.inr (some r)), .inr (.inr (some m))] S (some (.inl (0 : Int32))) S1 0 0)) ∧ (¬ (tf (q_4 ≤ p_3)) = 0 → (([] : List MV) = [] ∧ mret (some .boolean) (sp_rop r m F j pk cu ids fnd d B) [.inr (.inr (some r)), .inr (.inr (some m))] S (some (.inl (1 : Int32))) S1 0 0)))))))))
      refine ⟨hR1.1, rfl, pa_i (hR1.2.2.2.1 0 (by decide)).1 ⟨m, clS y 5, B.length - 4, a4, Nat.le_refl _, Nat.le_refl _, fun z => ⟨rfl, Or.inl rfl, ⟨0, rfl, a5, Or.inr ⟨rfl, fun x' y' hc => ?_⟩⟩, Nat.le_refl _, Nat.le_refl _⟩, fun z => ⟨rfl, Or.inr rfl, ⟨1, rfl, a5, Or.inl ⟨rfl, x, y, ⟨a1, ?_⟩, a3⟩⟩, Nat.le_refl _, Nat.le_refl _⟩⟩⟩
      · have u := ClK.uniq a1 hc.1 4 (by decide)
        have e := hc.2
        unfold tf at z
        rw [if_pos (show B.length - 4 ≤ clS y 5 from by show B.length - 4 ≤ y 4; omega)] at z
        exact absurd z (by decide)
      · unfold tf at z
        by_cases q : B.length - 4 ≤ clS y 5
        · have q : B.length - 4 ≤ y 4 := q
          omega
        · rw [if_neg q] at z
          exact absurd rfl z
theorem u_rop (l : Launch) : Us l yX8_openColumns cX8_openColumns 2 (some .boolean) 3 66 9 T_rop := by
  intro Rc Rs av S cs sl K Kx h
  unfold T_rop at h
  split at h
  · rename_i r_o m_o
    obtain ⟨r, rfl, h_1⟩ := pa_of h
    obtain ⟨m, rfl, h_2⟩ := pa_of h_1
    obtain ⟨F, j, pk, cu, ids, fnd, d, B, hp, hc, hs, hk⟩ := h_2
    refine ⟨(sp_rop r m F j pk cu ids fnd d B), c_rop l r m F j pk cu ids fnd d B, fun _ _ h9 => ⟨_, _, h9.1, h9.2.1.1⟩, ⟨rfl, hp⟩, hc, hs, fun v9 S' h8 => by
      obtain ⟨v8, h7, h8⟩ := h8
      cases h7
      exact hk _ _ h8, fun _ _ q => q.elim⟩
  · exact h.elim
