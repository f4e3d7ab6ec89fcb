/-! ===== PatchReader.<init> ===== -/
def riX (S : MM) (F : Nat → Nat × Nat) (j r k : Nat) (S1 : MM) (F1 : Nat → Nat × Nat) (cu : Nat → Nat) : Prop := isO S1 9 r ∧ F1 r = (j, 1) ∧ (∀ i, i < k → mR S1 (901 + i) r = some (cu i) ∧ isO S1 3 (cu i) ∧ F1 (cu i) = (j, 2 + i)) ∧ FO S1 F1 ∧ (∀ b, b ∈ mL S → b ≠ r → F1 b = F b) ∧ Keep (fun b => b = r) S S1
theorem isO_sJ9 {S : MM} {i a k b : Nat} {v : Int64} (h : isO S k b) : isO (sJ S i a v) k b := h
section RIX
variable {S S1 : MM} {F F1 : Nat → Nat × Nat} {j r k : Nat} {cu : Nat → Nat}
theorem riX.nw (h : riX S F j r k S1 F1 cu) (hj : j ≠ 0) {q : Nat} (hq : q ∉ mL S1) : riX S F j r (k + 1) (sR (cuZ (nO S1 q 3) q) (901 + k) r (some q)) (fun b => if b = q then (j, 2 + k) else F1 b) (updN cu k q) := by
  obtain ⟨h1, h2, h3, h4, h5, h6⟩ := h
  have rq : r ≠ q := fun e => hq (e ▸ h1.1)
  have o1 : isO (cuZ (nO S1 q 3) q) 9 r := isO_sI (isO_sI (isO_sR (isO_nO h1 hq)))
  have oq : isO (cuZ (nO S1 q 3) q) 3 q := isO_sI (isO_sI (isO_sR isO_nO_self))
  have kq : Keep (fun b => b = q) S1 (cuZ (nO S1 q 3) q) := Keep.sI (P := fun b => b = q) (Keep.sI (P := fun b => b = q) (Keep.sR (P := fun b => b = q) (Keep.nO (P := fun b => b = q) Keep.rf hq) rfl) rfl) rfl
  have mr : ∀ c, mR (cuZ (nO S1 q 3) q) c r = mR S1 c r := fun c => (kq.2.1 r h1.1 rq).2.1 c
  refine ⟨isO_sR o1, ?_, fun i hi => ?_, fun b hb => ?_, fun b hb hbr => ?_, ?_⟩
  · show (if r = q then (j, 2 + k) else F1 r) = (j, 1)
    rw [if_neg rq]; exact h2
  · by_cases e : i = k
    · subst e
      rw [show updN cu i q i = q from if_pos rfl]
      exact ⟨by rw [mR_sR, if_pos ⟨rfl, rfl⟩], isO_sR oq, if_pos rfl⟩
    · have hi2 := h3 i (by omega)
      rw [show updN cu k q i = cu i from if_neg e]
      have cq : cu i ≠ q := fun z => hq (z ▸ hi2.2.1.1)
      refine ⟨by rw [mR_sR, if_neg (fun z => e (by have := z.1; omega)), mr]; exact hi2.1, isO_sR (kq.isO hi2.2.1), ?_⟩
      show (if cu i = q then (j, 2 + k) else F1 (cu i)) = _
      rw [if_neg cq]; exact hi2.2.2
  · have hb : (if b = q then (j, 2 + k) else F1 b) ≠ (0, 0) := hb
    by_cases e : b = q
    · rw [e]; exact (isO_sR oq).1
    · rw [if_neg e] at hb
      exact (kq.1 b (h4 b hb)).1
  · show (if b = q then (j, 2 + k) else F1 b) = F b
    rw [if_neg (fun (e : b = q) => hq (e ▸ (h6.1 b hb).1))]
    exact h5 b hb hbr
  · exact Keep.sR (P := fun b => b = r) (h6.trN kq (fun b hb e => absurd (e ▸ (h6.1 b hb).1) hq)) rfl
theorem riX.arr (h : riX S F j r 6 S1 F1 cu) {q c kd n ro : Nat} (hq : q ∉ mL S1) (hc : 906 < c) : riX S F j r 6 (sR (nA S1 q kd n) c r (some q)) (fun b => if b = q then (j, ro) else F1 b) cu ∧ (∀ b, b ∈ mL S1 → (fun b => if b = q then (j, ro) else F1 b) b = F1 b) ∧ Keep (fun b => b = r) S1 (sR (nA S1 q kd n) c r (some q)) ∧ (∀ c', c' ≠ c → mR (sR (nA S1 q kd n) c r (some q)) c' r = mR S1 c' r) ∧ isO (sR (nA S1 q kd n) c r (some q)) kd q ∧ mN (sR (nA S1 q kd n) c r (some q)) q = n := by
  obtain ⟨h1, h2, h3, h4, h5, h6⟩ := h
  have rq : r ≠ q := fun e => hq (e ▸ h1.1)
  have kq : Keep (fun b => b = r) S1 (sR (nA S1 q kd n) c r (some q)) := Keep.sR (P := fun b => b = r) (Keep.nA (P := fun b => b = r) Keep.rf hq) rfl
  have fq : ∀ b, b ∈ mL S1 → (fun b => if b = q then (j, ro) else F1 b) b = F1 b := fun b hb => if_neg (fun (e : b = q) => hq (e ▸ hb))
  have mr : ∀ c', c' ≠ c → mR (sR (nA S1 q kd n) c r (some q)) c' r = mR S1 c' r := fun c' hc' => by
    rw [mR_sR, if_neg (fun z => hc' z.1)]
    exact ((Keep.nA (P := fun _ => False) (k := kd) (n := n) (Keep.rf (S := S1)) hq).2.1 r h1.1 (fun z => z)).2.1 c'
  refine ⟨⟨kq.isO h1, (fq r h1.1).trans h2, fun i hi => ?_, fun b hb => ?_, fun b hb hbr => (fq b (h6.1 b hb).1).trans (h5 b hb hbr), h6.tr kq⟩, fq, kq, mr, isO_sR isO_nA_self, ?_⟩
  · have hi2 := h3 i hi
    exact ⟨(mr _ (by omega)).trans hi2.1, kq.isO hi2.2.1, (fq _ hi2.2.1.1).trans hi2.2.2⟩
  · have hb : (if b = q then (j, ro) else F1 b) ≠ (0, 0) := hb
    by_cases e : b = q
    · rw [e]; exact (isO_nA_self (S := S1) (a := q) (k := kd) (n := n)).1
    · rw [if_neg e] at hb
      exact (kq.1 b (h4 b hb)).1
  · show mN (nA S1 q kd n) q = n
    rw [mN_nA, if_pos rfl]
end RIX
def I_ri7 (r p : Nat) (F : Nat → Nat × Nat) (j : Nat) (S : MM) (t : Nat) : KT := fun lo st S1 cs sl => ∃ F1 cu ids fnd, t = 0 ∧ riX S F j r 6 S1 F1 cu ∧ mR S1 907 r = some ids ∧ isO S1 17 ids ∧ mN S1 ids = 256 ∧ F1 ids = (j, 8) ∧ mR S1 908 r = some fnd ∧ isO S1 23 fnd ∧ mN S1 fnd = 16 ∧ F1 fnd = (j, 9) ∧ lo = [(0, .inr (.inr (some r))), (1, .inr (.inr (some p)))] ∧ st = [] ∧ cs = 8 ∧ sl = 290
def I_ri (k r p : Nat) (F : Nat → Nat × Nat) (j : Nat) (S : MM) (t : Nat) : KT := fun lo st S1 cs sl => ∃ F1 cu, t = 7 - k ∧ riX S F j r k S1 F1 cu ∧ lo = [(0, .inr (.inr (some r))), (1, .inr (.inr (some p)))] ∧ st = [] ∧ cs = k ∧ sl = 3 * k
def riP (S S' : MM) (F : Nat → Nat × Nat) (j r p : Nat) : Prop := ∃ F' cu ids fnd, RD S' F' j r p cu ids fnd ∧ FO S' F' ∧ (∀ b, b ∈ mL S → b ≠ r → F' b = F b) ∧ Keep (fun b => b = r) S S' ∧ mJ S' 919 r = lZ 0
def T_rini : TR := fun Rc Rs av S cs sl K _Kx => match av with
  | [.inr (.inr r_o), .inr (.inr p_o)] => pa r_o fun r => (pa p_o fun p => (∃ (F : Nat → Nat × Nat) (j : Nat), (isO S 9 r ∧ isO S 8 p ∧ FO S F ∧ j ≠ 0) ∧ cs + 8 ≤ Rc ∧ sl + 290 ≤ Rs ∧ (∀ (S' : MM), (riP S S' F j r p) → K none S' (cs + 8) (sl + 290))))
  | _ => False
def sp_rini (r : Nat) (p : Nat) (F : Nat → Nat × Nat) (j : Nat) : Sp := (fun av S => av = [.inr (.inr (some r)), .inr (.inr (some p))] ∧ (isO S 9 r ∧ isO S 8 p ∧ FO S F ∧ j ≠ 0), fun _ S => 8, fun _ S => 290, fun _ S rv S' => rv = none ∧ (riP S S' F j r p), fun _ _ _ _ => False)
def tX8_init : CD := [(0, .aload_n 0), (1, .invokespecial 3), (4, .aload_n 0), (5, .new 9), (8, .dup), (9, .invokespecial 11), (12, .putfield 12), (15, .aload_n 0), (16, .new 9), (19, .dup), (20, .invokespecial 11), (23, .putfield 18), (26, .aload_n 0), (27, .new 9), (30, .dup), (31, .invokespecial 11), (34, .putfield 21), (37, .aload_n 0), (38, .new 9), (41, .dup), (42, .invokespecial 11), (45, .putfield 24), (48, .aload_n 0), (49, .new 9), (52, .dup), (53, .invokespecial 11), (56, .putfield 27), (59, .aload_n 0), (60, .new 9), (63, .dup), (64, .invokespecial 11), (67, .putfield 30), (70, .aload_n 0), (71, .sipush 256), (74, .newarray .int), (76, .putfield 33), (79, .aload_n 0), (80, .bipush 16), (82, .anewarray 37), (85, .putfield 39), (88, .aload_n 0), (89, .iconst 0), (90, .putfield 43), (93, .aload_n 0), (94, .aconst_null), (95, .putfield 47), (98, .aload_n 0), (99, .iconst 0), (100, .putfield 51), (103, .aload_n 0), (104, .iconst 0), (105, .putfield 54), (108, .aload_n 0), (109, .iconst 0), (110, .putfield 57), (113, .aload_n 0), (114, .iconst 0), (115, .putfield 60), (118, .aload_n 0), (119, .iconst 0), (120, .putfield 63), (123, .aload_n 0), (124, .iconst 0), (125, .putfield 66), (128, .aload_n 0), (129, .iconst 0), (130, .putfield 69), (133, .aload_n 0), (134, .lconst 0), (135, .putfield 72), (138, .aload_n 0), (139, .lconst 0), (140, .putfield 76), (143, .aload_n 0), (144, .aload_n 1), (145, .putfield 79), (148, .return_)]
set_option maxRecDepth 100000 in
theorem kX8_init : chk cX8_init tX8_init = true := by decide +kernel
theorem vX8_init_3 : ∀ w ∈ ([.methodLink RX8 3 Lib.objectInit, .instanceMethod Lib.objectInit, .code Lib.objectInit ⟨#[0xb1]⟩ 1 none] : List Cond), w ∈ lw_good := List.forall_mem_cons.mpr ⟨mgd 538 (by decide +kernel) (by decide +kernel), List.forall_mem_cons.mpr ⟨mgd 158 (by decide +kernel) (by decide +kernel), List.forall_mem_cons.mpr ⟨mgd 159 (by decide +kernel) (by decide +kernel), fun _ h => absurd h List.not_mem_nil⟩⟩⟩
theorem vX8_init_11 : ∀ w ∈ ([.instanceMethod yX2_init, .initialized yX2_init.cls, .code yX2_init cX2_init 1 none] : List Cond), w ∈ lw_good := List.forall_mem_cons.mpr ⟨mgd 418 (by decide +kernel) (by decide +kernel), List.forall_mem_cons.mpr ⟨mgd 131 (by decide +kernel) (by decide +kernel), List.forall_mem_cons.mpr ⟨mgd 419 (by decide +kernel) (by decide +kernel), fun _ h => absurd h List.not_mem_nil⟩⟩⟩
set_option maxRecDepth 100000 in
set_option maxHeartbeats 2000000 in
theorem c_rini (l : Launch) : ∀ (r : Nat) (p : Nat) (F : Nat → Nat × Nat) (j : Nat), Ct l yX8_init cX8_init 2 none 2 40 (sp_rini r p F j) := by
  intro r p F j
  refine Ct.of (fX8, nX8, aX8, iX8, lX8, [(3, 1, 1, 0, T_obj), (11, 1, 1, 0, T_cini)], qX8, gX8, []) true tX8_init (fun _ S => look [(15, ([0,1], I_ri 1 r p F j S)), (26, ([0,1], I_ri 2 r p F j S)), (37, ([0,1], I_ri 3 r p F j S)), (48, ([0,1], I_ri 4 r p F j S)), (59, ([0,1], I_ri 5 r p F j S)), (70, ([0,1], I_ri 6 r p F j S)), (88, ([0,1], I_ri7 r p F j S))]) (by decide) (by decide) kX8_init ⟨_, _, rfl⟩ fX8_ok nX8_ok aX8_ok iX8_ok lX8_ok (fun p e R s m args below meth c Q D cy z r A C hR1 hR2 => List.forall_mem_cons.mpr ⟨cOK_use (fun _ _ _ _ _ _ _ _ h => ⟨spObj, cOK_obj C vX8_init_3 ⟨by rw [hR1]; decide, by rw [hR2]; decide⟩, T_obj_ok h⟩), List.forall_mem_cons.mpr ⟨cOK_use (fun _ _ _ _ _ _ _ _ h => let ⟨sp, h1, h2, h3⟩ := u_cini l _ _ _ _ _ _ _ _ h; ⟨sp, cOK_I C h1 vX8_init_11 (Or.inr ⟨"WeaveText", mbd 540 (by decide +kernel) (by decide +kernel)⟩) rfl ⟨by decide, by decide, by decide +kernel⟩ ⟨by rw [hR1]; decide, by rw [hR2]; decide⟩ h2, h3⟩), fun _ h => absurd h List.not_mem_nil⟩⟩) qX8_ok gX8_ok rfl ?_ ?_
  · rintro _ S ⟨rfl, hp⟩
    refine ⟨Nat.le_of_ble_eq_true rfl, 300, ?_⟩
    show (1 = 1 ∧ (True ∧ 0 ≤ 8 ∧ 0 ≤ 290 ∧ ((0 + 1 ≤ 8 ∧ 0 + 3 ≤ 290 ∧ ∀ q_2, q_2 ∉ mL S → (1 = 1 ∧ ((isO (nO S q_2 3) 3 q_2) ∧ 0 + 1 ≤ 8 ∧ 0 + 3 ≤ 290 ∧ ((true = true ∧ (isO (cuZ (nO S q_2 3) q_2) 9 r ∧ (∃ k1, I_ri 1 r p F j S k1 [(0, .inr (.inr (some r))), (1, .inr (.inr (some p)))] [] (sR (cuZ (nO S q_2 3) q_2) 901 r (some q_2)) (0 + 1) (0 + 3)))))))))))
    obtain ⟨h1, h2, h3, h4⟩ := hp
    have h0 : riX S (fun b => if b = r then (j, 1) else F b) j r 0 S (fun b => if b = r then (j, 1) else F b) (fun _ => 0) := ⟨h1, if_pos rfl, fun i hi => absurd hi (Nat.not_lt_zero i), fun b hb => by
      by_cases e : b = r
      · rw [e]; exact h1.1
      · have hb : (if b = r then (j, 1) else F b) ≠ (0, 0) := hb
        rw [if_neg e] at hb; exact h3 b hb, fun _ _ _ => rfl, Keep.rf⟩
    refine ⟨rfl, trivial, Nat.zero_le _, Nat.zero_le _, by decide, by decide, fun q hq => ?_⟩
    obtain ⟨a1, a2, a3, a4, a5, a6⟩ := h0.nw h4 hq
    exact ⟨rfl, isO_nO_self, by decide, by decide, rfl, isO_sI (isO_sI (isO_sR (isO_nO h1 hq))), 7 - 1, _, _, rfl, ⟨a1, a2, a3, a4, fun b hb hbr => (a5 b hb hbr).trans (if_neg hbr), a6⟩, rfl, rfl, rfl, rfl⟩
  · intro av S hpre pc I hI k lo st S1 cs sl h
    obtain ⟨rfl, hp⟩ := hpre
    have hm := look_in hI
    simp only [List.mem_cons, List.not_mem_nil, or_false] at hm
    rcases hm with hm | hm | hm | hm | hm | hm | hm
    · cases hm
      obtain ⟨F1, cu, rfl, hX, rfl, rfl, rfl, rfl⟩ := h
      refine ⟨300, ?_⟩
      show (1 + 1 ≤ 8 ∧ 3 * 1 + 3 ≤ 290 ∧ ∀ q_1, q_1 ∉ mL S1 → (1 = 1 ∧ ((isO (nO S1 q_1 3) 3 q_1) ∧ 1 + 1 ≤ 8 ∧ 3 * 1 + 3 ≤ 290 ∧ ((true = true ∧ (isO (cuZ (nO S1 q_1 3) q_1) 9 r ∧ (∃ k1, k1 < 7 - 1 ∧ I_ri 2 r p F j S k1 [(0, .inr (.inr (some r))), (1, .inr (.inr (some p)))] [] (sR (cuZ (nO S1 q_1 3) q_1) 902 r (some q_1)) (1 + 1) (3 * 1 + 3))))))))
      exact ⟨by decide, by decide, fun q hq => ⟨rfl, isO_nO_self, by decide, by decide, rfl, isO_sI (isO_sI (isO_sR (isO_nO hX.1 hq))), 7 - 2, by decide, _, _, rfl, hX.nw hp.2.2.2 hq, rfl, rfl, rfl, rfl⟩⟩
    · cases hm
      obtain ⟨F1, cu, rfl, hX, rfl, rfl, rfl, rfl⟩ := h
      refine ⟨300, ?_⟩
      show (2 + 1 ≤ 8 ∧ 3 * 2 + 3 ≤ 290 ∧ ∀ q_1, q_1 ∉ mL S1 → (1 = 1 ∧ ((isO (nO S1 q_1 3) 3 q_1) ∧ 2 + 1 ≤ 8 ∧ 3 * 2 + 3 ≤ 290 ∧ ((true = true ∧ (isO (cuZ (nO S1 q_1 3) q_1) 9 r ∧ (∃ k1, k1 < 7 - 2 ∧ I_ri 3 r p F j S k1 [(0, .inr (.inr (some r))), (1, .inr (.inr (some p)))] [] (sR (cuZ (nO S1 q_1 3) q_1) 903 r (some q_1)) (2 + 1) (3 * 2 + 3))))))))
      exact ⟨by decide, by decide, fun q hq => ⟨rfl, isO_nO_self, by decide, by decide, rfl, isO_sI (isO_sI (isO_sR (isO_nO hX.1 hq))), 7 - 3, by decide, _, _, rfl, hX.nw hp.2.2.2 hq, rfl, rfl, rfl, rfl⟩⟩
    · cases hm
      obtain ⟨F1, cu, rfl, hX, rfl, rfl, rfl, rfl⟩ := h
      refine ⟨300, ?_⟩
      show (3 + 1 ≤ 8 ∧ 3 * 3 + 3 ≤ 290 ∧ ∀ q_1, q_1 ∉ mL S1 → (1 = 1 ∧ ((isO (nO S1 q_1 3) 3 q_1) ∧ 3 + 1 ≤ 8 ∧ 3 * 3 + 3 ≤ 290 ∧ ((true = true ∧ (isO (cuZ (nO S1 q_1 3) q_1) 9 r ∧ (∃ k1, k1 < 7 - 3 ∧ I_ri 4 r p F j S k1 [(0, .inr (.inr (some r))), (1, .inr (.inr (some p)))] [] (sR (cuZ (nO S1 q_1 3) q_1) 904 r (some q_1)) (3 + 1) (3 * 3 + 3))))))))
      exact ⟨by decide, by decide, fun q hq => ⟨rfl, isO_nO_self, by decide, by decide, rfl, isO_sI (isO_sI (isO_sR (isO_nO hX.1 hq))), 7 - 4, by decide, _, _, rfl, hX.nw hp.2.2.2 hq, rfl, rfl, rfl, rfl⟩⟩
    · cases hm
      obtain ⟨F1, cu, rfl, hX, rfl, rfl, rfl, rfl⟩ := h
      refine ⟨300, ?_⟩
      show (4 + 1 ≤ 8 ∧ 3 * 4 + 3 ≤ 290 ∧ ∀ q_1, q_1 ∉ mL S1 → (1 = 1 ∧ ((isO (nO S1 q_1 3) 3 q_1) ∧ 4 + 1 ≤ 8 ∧ 3 * 4 + 3 ≤ 290 ∧ ((true = true ∧ (isO (cuZ (nO S1 q_1 3) q_1) 9 r ∧ (∃ k1, k1 < 7 - 4 ∧ I_ri 5 r p F j S k1 [(0, .inr (.inr (some r))), (1, .inr (.inr (some p)))] [] (sR (cuZ (nO S1 q_1 3) q_1) 905 r (some q_1)) (4 + 1) (3 * 4 + 3))))))))
      exact ⟨by decide, by decide, fun q hq => ⟨rfl, isO_nO_self, by decide, by decide, rfl, isO_sI (isO_sI (isO_sR (isO_nO hX.1 hq))), 7 - 5, by decide, _, _, rfl, hX.nw hp.2.2.2 hq, rfl, rfl, rfl, rfl⟩⟩
    · cases hm
      obtain ⟨F1, cu, rfl, hX, rfl, rfl, rfl, rfl⟩ := h
      refine ⟨300, ?_⟩
      show (5 + 1 ≤ 8 ∧ 3 * 5 + 3 ≤ 290 ∧ ∀ q_1, q_1 ∉ mL S1 → (1 = 1 ∧ ((isO (nO S1 q_1 3) 3 q_1) ∧ 5 + 1 ≤ 8 ∧ 3 * 5 + 3 ≤ 290 ∧ ((true = true ∧ (isO (cuZ (nO S1 q_1 3) q_1) 9 r ∧ (∃ k1, k1 < 7 - 5 ∧ I_ri 6 r p F j S k1 [(0, .inr (.inr (some r))), (1, .inr (.inr (some p)))] [] (sR (cuZ (nO S1 q_1 3) q_1) 906 r (some q_1)) (5 + 1) (3 * 5 + 3))))))))
      exact ⟨by decide, by decide, fun q hq => ⟨rfl, isO_nO_self, by decide, by decide, rfl, isO_sI (isO_sI (isO_sR (isO_nO hX.1 hq))), 7 - 6, by decide, _, _, rfl, hX.nw hp.2.2.2 hq, rfl, rfl, rfl, rfl⟩⟩
    · cases hm
      obtain ⟨F1, cu, rfl, hX, rfl, rfl, rfl, rfl⟩ := h
      refine ⟨300, ?_⟩
      show (¬ (256 : Int32) < 0 ∧ (256 : Int32).toNatClampNeg * 8 ≤ 536870912 ∧ 6 + 1 ≤ 8 ∧ 3 * 6 + (256 : Int32).toNatClampNeg ≤ 290 ∧ ∀ q_1, q_1 ∉ mL S1 → (true = true ∧ (isO (nA S1 q_1 17 (256 : Int32).toNatClampNeg) 9 r ∧ (¬ (16 : Int32) < 0 ∧ (16 : Int32).toNatClampNeg * 8 ≤ 536870912 ∧ 6 + 1 + 1 ≤ 8 ∧ 3 * 6 + (256 : Int32).toNatClampNeg + (16 : Int32).toNatClampNeg ≤ 290 ∧ ∀ q_2, q_2 ∉ mL (sR (nA S1 q_1 17 (256 : Int32).toNatClampNeg) 907 r (some q_1)) → (true = true ∧ (isO (nA (sR (nA S1 q_1 17 (256 : Int32).toNatClampNeg) 907 r (some q_1)) q_2 23 (16 : Int32).toNatClampNeg) 9 r ∧ (∃ k1, k1 < 7 - 6 ∧ I_ri7 r p F j S k1 [(0, .inr (.inr (some r))), (1, .inr (.inr (some p)))] [] (sR (nA (sR (nA S1 q_1 17 (256 : Int32).toNatClampNeg) 907 r (some q_1)) q_2 23 (16 : Int32).toNatClampNeg) 908 r (some q_2)) (6 + 1 + 1) (3 * 6 + (256 : Int32).toNatClampNeg + (16 : Int32).toNatClampNeg))))))))
      rw [show Int32.toNatClampNeg 256 = 256 from by decide, show Int32.toNatClampNeg 16 = 16 from by decide]
      refine ⟨by decide, by decide, by decide, by decide, fun q hq => ?_⟩
      obtain ⟨a1, a2, a3, a4, a5, a6⟩ := hX.arr (c := 907) (kd := 17) (n := 256) (ro := 8) hq (by decide)
      refine ⟨rfl, isO_nA hX.1 hq, by decide, by decide, by decide, by decide, fun q2 hq2 => ?_⟩
      obtain ⟨b1, b2, b3, b4, b5, b6⟩ := a1.arr (c := 908) (kd := 23) (n := 16) (ro := 9) hq2 (by decide)
      refine ⟨rfl, isO_nA a1.1 hq2, 0, by decide, _, cu, q, q2, rfl, b1, ?_, b3.isO a5, (b3.1 q a5.1).2.2.trans a6, (b2 q a5.1).trans (if_pos rfl), ?_, b5, b6, if_pos rfl, rfl, rfl, rfl, rfl⟩
      · rw [b4 907 (by decide), mR_sR, if_pos ⟨rfl, rfl⟩]
      · rw [mR_sR, if_pos ⟨rfl, rfl⟩]
    · cases hm
      obtain ⟨F1, cu, ids, fnd, rfl, hX, i1, i2, i3, i4, f1, f2, f3, f4, rfl, rfl, rfl, rfl⟩ := h
      refine ⟨300, ?_⟩
      show (True ∧ (isO S1 9 r ∧ (True ∧ (isO (sI S1 909 r (0 : Int32)) 9 r ∧ (True ∧ (isO (sR (sI S1 909 r (0 : Int32)) 910 r none) 9 r ∧ (True ∧ (isO (sI (sR (sI S1 909 r (0 : Int32)) 910 r none) 911 r (0 : Int32)) 9 r ∧ (True ∧ (isO (sI (sI (sR (sI S1 909 r (0 : Int32)) 910 r none) 911 r (0 : Int32)) 912 r (0 : Int32)) 9 r ∧ (True ∧ (isO (sI (sI (sI (sR (sI S1 909 r (0 : Int32)) 910 r none) 911 r (0 : Int32)) 912 r (0 : Int32)) 913 r (0 : Int32)) 9 r ∧ (True ∧ (isO (sI (sI (sI (sI (sR (sI S1 909 r (0 : Int32)) 910 r none) 911 r (0 : Int32)) 912 r (0 : Int32)) 913 r (0 : Int32)) 914 r (0 : Int32)) 9 r ∧ (True ∧ (isO (sI (sI (sI (sI (sI (sR (sI S1 909 r (0 : Int32)) 910 r none) 911 r (0 : Int32)) 912 r (0 : Int32)) 913 r (0 : Int32)) 914 r (0 : Int32)) 915 r (0 : Int32)) 9 r ∧ (True ∧ (isO (sI (sI (sI (sI (sI (sI (sR (sI S1 909 r (0 : Int32)) 910 r none) 911 r (0 : Int32)) 912 r (0 : Int32)) 913 r (0 : Int32)) 914 r (0 : Int32)) 915 r (0 : Int32)) 916 r (0 : Int32)) 9 r ∧ (True ∧ (isO (sI (sI (sI (sI (sI (sI (sI (sR (sI S1 909 r (0 : Int32)) 910 r none) 911 r (0 : Int32)) 912 r (0 : Int32)) 913 r (0 : Int32)) 914 r (0 : Int32)) 915 r (0 : Int32)) 916 r (0 : Int32)) 917 r (0 : Int32)) 9 r ∧ (True ∧ (isO (sJ (sI (sI (sI (sI (sI (sI (sI (sR (sI S1 909 r (0 : Int32)) 910 r none) 911 r (0 : Int32)) 912 r (0 : Int32)) 913 r (0 : Int32)) 914 r (0 : Int32)) 915 r (0 : Int32)) 916 r (0 : Int32)) 917 r (0 : Int32)) 918 r (0 : Int64)) 9 r ∧ (true = true ∧ (isO (sJ (sJ (sI (sI (sI (sI (sI (sI (sI (sR (sI S1 909 r (0 : Int32)) 910 r none) 911 r (0 : Int32)) 912 r (0 : Int32)) 913 r (0 : Int32)) 914 r (0 : Int32)) 915 r (0 : Int32)) 916 r (0 : Int32)) 917 r (0 : Int32)) 918 r (0 : Int64)) 919 r (0 : Int64)) 9 r ∧ (([] : List MV) = [] ∧ mret none (sp_rini r p F j) [.inr (.inr (some r)), .inr (.inr (some p))] S none (sR (sJ (sJ (sI (sI (sI (sI (sI (sI (sI (sR (sI S1 909 r (0 : Int32)) 910 r none) 911 r (0 : Int32)) 912 r (0 : Int32)) 913 r (0 : Int32)) 914 r (0 : Int32)) 915 r (0 : Int32)) 916 r (0 : Int32)) 917 r (0 : Int32)) 918 r (0 : Int64)) 919 r (0 : Int64)) 900 r (some p)) 8 290)))))))))))))))))))))))))
      have w : RW (fun _ => False) [900, 909, 910, 911, 912, 913, 914, 915, 916, 917, 918, 919] r S1 (sR (sJ (sJ (sI (sI (sI (sI (sI (sI (sI (sR (sI S1 909 r 0) 910 r none) 911 r 0) 912 r 0) 913 r 0) 914 r 0) 915 r 0) 916 r 0) 917 r 0) 918 r 0) 919 r 0) 900 r (some p)) := (((((((((((RW.rf.wI (by decide)).wR (by decide)).wI (by decide)).wI (by decide)).wI (by decide)).wI (by decide)).wI (by decide)).wI (by decide)).wI (by decide)).wJ (by decide)).wJ (by decide)).wR (by decide)
      have o0 := hX.1
      have o1 : isO (sI S1 909 r 0) 9 r := isO_sI o0
      have o2 : isO (sR (sI S1 909 r 0) 910 r none) 9 r := isO_sR o1
      have o3 : isO (sI (sR (sI S1 909 r 0) 910 r none) 911 r 0) 9 r := isO_sI o2
      have o4 : isO (sI (sI (sR (sI S1 909 r 0) 910 r none) 911 r 0) 912 r 0) 9 r := isO_sI o3
      have o5 : isO (sI (sI (sI (sR (sI S1 909 r 0) 910 r none) 911 r 0) 912 r 0) 913 r 0) 9 r := isO_sI o4
      have o6 : isO (sI (sI (sI (sI (sR (sI S1 909 r 0) 910 r none) 911 r 0) 912 r 0) 913 r 0) 914 r 0) 9 r := isO_sI o5
      have o7 : isO (sI (sI (sI (sI (sI (sR (sI S1 909 r 0) 910 r none) 911 r 0) 912 r 0) 913 r 0) 914 r 0) 915 r 0) 9 r := isO_sI o6
      have o8 : isO (sI (sI (sI (sI (sI (sI (sR (sI S1 909 r 0) 910 r none) 911 r 0) 912 r 0) 913 r 0) 914 r 0) 915 r 0) 916 r 0) 9 r := isO_sI o7
      have o9 : isO (sI (sI (sI (sI (sI (sI (sI (sR (sI S1 909 r 0) 910 r none) 911 r 0) 912 r 0) 913 r 0) 914 r 0) 915 r 0) 916 r 0) 917 r 0) 9 r := isO_sI o8
      have o10 : isO (sJ (sI (sI (sI (sI (sI (sI (sI (sR (sI S1 909 r 0) 910 r none) 911 r 0) 912 r 0) 913 r 0) 914 r 0) 915 r 0) 916 r 0) 917 r 0) 918 r 0) 9 r := isO_sJ9 o9
      have o11 : isO (sJ (sJ (sI (sI (sI (sI (sI (sI (sI (sR (sI S1 909 r 0) 910 r none) 911 r 0) 912 r 0) 913 r 0) 914 r 0) 915 r 0) 916 r 0) 917 r 0) 918 r 0) 919 r 0) 9 r := isO_sJ9 o10
      refine ⟨trivial, o0, trivial, o1, trivial, o2, trivial, o3, trivial, o4, trivial, o5, trivial, o6, trivial, o7, trivial, o8, trivial, o9, trivial, o10, rfl, o11, rfl, trivial, ⟨rfl, F1, cu, ids, fnd, ⟨isO_sR o11, hX.2.1, ?_, fun k hk => ⟨(w.2.2.1 (901 + k) ?_).trans (hX.2.2.1 k hk).1, w.1.isO (hX.2.2.1 k hk).2.1, (hX.2.2.1 k hk).2.2⟩, (w.2.2.1 907 (by decide)).trans i1, w.1.isO i2, (w.1.1 ids i2.1).2.2.trans i3, i4, (w.2.2.1 908 (by decide)).trans f1, w.1.isO f2, (w.1.1 fnd f2.1).2.2.trans f3, f4, hp.2.2.2⟩, fun b hb => (w.1.1 b (hX.2.2.2.1 b hb)).1, hX.2.2.2.2.1, hX.2.2.2.2.2.tr (w.1.mono (fun b _ z => z.elim id False.elim)), ?_⟩, Nat.le_refl 8, Nat.le_refl 290⟩
      · rw [mR_sR, if_pos ⟨rfl, rfl⟩]
      · simp only [List.mem_cons, List.not_mem_nil, or_false]; omega
      · rw [mJ_sR, mJ_sJ, if_pos ⟨rfl, rfl⟩]; rfl
theorem u_rini (l : Launch) : Us l yX8_init cX8_init 2 none 2 40 98 T_rini := by
  intro Rc Rs av S cs sl K Kx h
  unfold T_rini at h
  split at h
  · rename_i r_o p_o
    obtain ⟨r, rfl, h_1⟩ := pa_of h
    obtain ⟨p, rfl, h_2⟩ := pa_of h_1
    obtain ⟨F, j, hp, hc, hs, hk⟩ := h_2
    refine ⟨(sp_rini r p F j), c_rini l r p F j, fun _ _ h9 => ⟨_, _, h9.1⟩, ⟨rfl, hp⟩, hc, hs, fun S' h8 => by
      obtain ⟨-, h8⟩ := h8
      exact hk _ h8, fun _ _ q => q.elim⟩
  · exact h.elim
