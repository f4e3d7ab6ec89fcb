/-! ===== PatchWriter.<init> ===== -/
def wiX (S : MM) (F : Nat → Nat × Nat) (j w k : Nat) (S1 : MM) (F1 : Nat → Nat × Nat) (a d : Nat → Nat) : Prop := isO S1 10 w ∧ F1 w = (j, 1) ∧ (∀ i, i < k → mR S1 (1000 + i) w = some (a i) ∧ Col S1 F1 j i (a i) (d i) [] 64) ∧ FO S1 F1 ∧ (∀ b, b ∈ mL S → b ≠ w → F1 b = F b) ∧ Keep (fun b => b = w) S S1
def newB (S : MM) (q e : Nat) : MM := sI (sI (sR (nA (nO S q 2) e 16 64) 200 q (some e)) 201 q 0) 202 q 0
section WIX
variable {S S1 : MM} {F F1 : Nat → Nat × Nat} {j w k : Nat} {a d : Nat → Nat}
theorem newB_keep {q e : Nat} (hq : q ∉ mL S1) (he : e ∉ mL (nO S1 q 2)) : Keep (fun b => b = q) S1 (newB S1 q e) := Keep.sI (P := fun b => b = q) (Keep.sI (P := fun b => b = q) (Keep.sR (P := fun b => b = q) (Keep.nA (P := fun b => b = q) (Keep.nO (P := fun b => b = q) Keep.rf hq) he) rfl) rfl) rfl
theorem newB_by {q e : Nat} (he : e ∉ mL (nO S1 q 2)) : By (newB S1 q e) q e [] := By.new isO_nO_self he
theorem newB_n {q e : Nat} : mN (newB S1 q e) e = 64 := by show mN (nA (nO S1 q 2) e 16 64) e = 64; rw [mN_nA, if_pos rfl]
theorem newB_i {q e : Nat} : mI (newB S1 q e) 202 q = 0 := mI_sIs
theorem wiX.nw (h : wiX S F j w k S1 F1 a d) (hk : k < 5) {q e : Nat} (hq : q ∉ mL S1) (he : e ∉ mL (nO S1 q 2)) : wiX S F j w (k + 1) (sR (newB S1 q e) (1000 + k) w (some q)) (fun b => if b = q then (j, 40 + 2 * k) else if b = e then (j, 41 + 2 * k) else F1 b) (updN a k q) (updN d k e) := by
  obtain ⟨h1, h2, h3, h4, h5, h6⟩ := h
  have wq : w ≠ q := fun e => hq (e ▸ h1.1)
  have he1 : e ∉ mL S1 := fun z => he (List.mem_append_left _ z)
  have we : w ≠ e := fun z => he1 (z ▸ h1.1)
  have eq : e ≠ q := fun z => he (by rw [z]; exact (isO_nO_self (S := S1) (k := 2)).1)
  have kq : Keep (fun b => b = q) S1 (newB S1 q e) := newB_keep hq he
  have bq : By (newB S1 q e) q e [] := newB_by he
  have kw : Keep (fun b => b = w) (newB S1 q e) (sR (newB S1 q e) (1000 + k) w (some q)) := Keep.sR (P := fun b => b = w) Keep.rf rfl
  have k2 : Keep (fun b => b = w) S1 (sR (newB S1 q e) (1000 + k) w (some q)) := (Keep.rf (P := fun b => b = w)).trN kq (fun b hb e => absurd (e ▸ hb) hq) |>.tr kw
  have fo : ∀ b, b ∈ mL S1 → (fun b => if b = q then (j, 40 + 2 * k) else if b = e then (j, 41 + 2 * k) else F1 b) b = F1 b := fun b hb => by
    show (if b = q then (j, 40 + 2 * k) else if b = e then (j, 41 + 2 * k) else F1 b) = F1 b
    rw [if_neg (fun (z : b = q) => hq (z ▸ hb)), if_neg (fun (z : b = e) => he1 (z ▸ hb))]
  refine ⟨kw.isO (kq.isO h1), (fo w h1.1).trans h2, fun i hi => ?_, fun b hb => ?_, fun b hb hbr => (fo b (h6.1 b hb).1).trans (h5 b hb hbr), h6.tr k2⟩
  · by_cases e2 : i = k
    · subst e2
      rw [show updN a i q i = q from if_pos rfl, show updN d i e i = e from if_pos rfl]
      refine ⟨by rw [mR_sR, if_pos ⟨rfl, rfl⟩], bq.keep kw (Ne.symm wq) (Ne.symm we), if_pos rfl, ?_, ?_, ?_⟩
      · show (if e = q then (j, 40 + 2 * i) else if e = e then (j, 41 + 2 * i) else F1 e) = _
        rw [if_neg eq, if_pos rfl]
      · exact ((kw.2.1 q bq.1.1 (Ne.symm wq)).1 202).trans newB_i
      · exact (kw.1 e bq.2.2.1.1).2.2.trans newB_n
    · have hi2 := h3 i (by omega)
      rw [show updN a k q i = a i from if_neg e2, show updN d k e i = d i from if_neg e2]
      refine ⟨?_, ?_⟩
      · rw [mR_sR, if_neg (fun z => e2 (by have := z.1; omega))]
        exact ((kq.2.1 w h1.1 wq).2.1 _).trans hi2.1
      · refine hi2.2.keep k2 ?_ ?_ fo
        · intro z
          have z1 := hi2.2.2.1; rw [z, h2] at z1; have := congrArg Prod.snd z1; simp only at this; omega
        · intro z
          have z1 := hi2.2.2.2.1; rw [z, h2] at z1; have := congrArg Prod.snd z1; simp only at this; omega
  · by_cases e2 : b ∈ mL S1
    · exact (k2.1 b e2).1
    · have hb : (if b = q then (j, 40 + 2 * k) else if b = e then (j, 41 + 2 * k) else F1 b) ≠ (0, 0) := hb
      by_cases e3 : b = q
      · rw [e3]; exact (kw.isO bq.1).1
      · by_cases e4 : b = e
        · rw [e4]; exact (kw.isO bq.2.2.1).1
        · rw [if_neg e3, if_neg e4] at hb
          exact absurd (h4 b hb) e2
theorem wiX.arr (h : wiX S F j w 5 S1 F1 a d) {q c kd n ro : Nat} (hq : q ∉ mL S1) (hc : 1004 < c) (hr : ro ≠ 0) : wiX S F j w 5 (sR (nA S1 q kd n) c w (some q)) (fun b => if b = q then (j, ro) else F1 b) a d ∧ (∀ b, b ∈ mL S1 → (fun b => if b = q then (j, ro) else F1 b) b = F1 b) ∧ Keep (fun b => b = w) S1 (sR (nA S1 q kd n) c w (some q)) ∧ (∀ c', c' ≠ c → mR (sR (nA S1 q kd n) c w (some q)) c' w = mR S1 c' w) ∧ isO (sR (nA S1 q kd n) c w (some q)) kd q ∧ mN (sR (nA S1 q kd n) c w (some q)) q = n := by
  obtain ⟨h1, h2, h3, h4, h5, h6⟩ := h
  have rq : w ≠ q := fun e => hq (e ▸ h1.1)
  have kq : Keep (fun b => b = w) S1 (sR (nA S1 q kd n) c w (some q)) := Keep.sR (P := fun b => b = w) (Keep.nA (P := fun b => b = w) Keep.rf hq) rfl
  have fq : ∀ b, b ∈ mL S1 → (fun b => if b = q then (j, ro) else F1 b) b = F1 b := fun b hb => if_neg (fun (e : b = q) => hq (e ▸ hb))
  have mr : ∀ c', c' ≠ c → mR (sR (nA S1 q kd n) c w (some q)) c' w = mR S1 c' w := fun c' hc' => by
    rw [mR_sR, if_neg (fun z => hc' z.1)]
    exact ((Keep.nA (P := fun _ => False) (k := kd) (n := n) (Keep.rf (S := S1)) hq).2.1 w h1.1 (fun z => z)).2.1 c'
  refine ⟨⟨kq.isO h1, (fq w h1.1).trans h2, fun i hi => ?_, fun b hb => ?_, fun b hb hbr => (fq b (h6.1 b hb).1).trans (h5 b hb hbr), h6.tr kq⟩, fq, kq, mr, isO_sR isO_nA_self, ?_⟩
  · have hi2 := h3 i hi
    refine ⟨(mr _ (by omega)).trans hi2.1, hi2.2.keep kq ?_ ?_ fq⟩
    · intro z
      have z1 := hi2.2.2.1; rw [z, h2] at z1; have := congrArg Prod.snd z1; simp only at this; omega
    · intro z
      have z1 := hi2.2.2.2.1; rw [z, h2] at z1; have := congrArg Prod.snd z1; simp only at this; omega
  · have hb : (if b = q then (j, ro) else F1 b) ≠ (0, 0) := hb
    by_cases e : b = q
    · rw [e]; exact (isO_nA_self (S := S1) (a := q) (k := kd) (n := n)).1
    · rw [if_neg e] at hb
      exact (kq.1 b (h4 b hb)).1
  · show mN (nA S1 q kd n) q = n
    rw [mN_nA, if_pos rfl]
end WIX
def wiP (S S' : MM) (F : Nat → Nat × Nat) (j w pk r d5 nw od : Nat) : Prop := ∃ F' a d pl me, PW0 S' F' j w pk pl me a d (fun _ => []) (fun _ => 64) ∧ FO S' F' ∧ (∀ b, b ∈ mL S → b ≠ w → F' b = F b) ∧ Keep (fun b => b = w) S S' ∧ a 5 = r ∧ d 5 = d5 ∧ a 6 = nw ∧ a 7 = od
def wiR (S : MM) (F : Nat → Nat × Nat) (j w pk r d5 nw od : Nat) : Prop := isO S 10 w ∧ FO S F ∧ j ≠ 0 ∧ F pk = (j, 4) ∧ PkF S F j pk r nw od ∧ Col S F j 5 r d5 [] 64 ∧ F w = (0, 0)
def I_wi (k w p : Nat) (F : Nat → Nat × Nat) (j : Nat) (S : MM) (t : Nat) : KT := fun lo st S1 cs sl => ∃ F1 a d, t = 7 - k ∧ wiX S F j w k S1 F1 a d ∧ lo = [(0, .inr (.inr (some w))), (1, .inr (.inr (some p)))] ∧ st = [] ∧ cs = 2 * k ∧ sl = 67 * k
def I_wi7 (w p : Nat) (F : Nat → Nat × Nat) (j : Nat) (S : MM) (t : Nat) : KT := fun lo st S1 cs sl => ∃ F1 a d pl me, t = 0 ∧ wiX S F j w 5 S1 F1 a d ∧ mR S1 1006 w = some pl ∧ isO S1 17 pl ∧ mN S1 pl = 256 ∧ F1 pl = (j, 2) ∧ mR S1 1007 w = some me ∧ isO S1 17 me ∧ mN S1 me = 256 ∧ F1 me = (j, 3) ∧ lo = [(0, .inr (.inr (some w))), (1, .inr (.inr (some p)))] ∧ st = [] ∧ cs = 12 ∧ sl = 847
def T_wini : TR := fun Rc Rs av S cs sl K _Kx => match av with
  | [.inr (.inr w_o), .inr (.inr p_o)] => pa w_o fun w => (pa p_o fun p => (∃ (F : Nat → Nat × Nat) (j r d5 nw od : Nat), (wiR S F j w p r d5 nw od) ∧ cs + 12 ≤ Rc ∧ sl + 847 ≤ Rs ∧ (∀ (S' : MM), (wiP S S' F j w p r d5 nw od) → K none S' (cs + 12) (sl + 847))))
  | _ => False
def sp_wini (w : Nat) (p : Nat) (F : Nat → Nat × Nat) (j r d5 nw od : Nat) : Sp := (fun av S => av = [.inr (.inr (some w)), .inr (.inr (some p))] ∧ (wiR S F j w p r d5 nw od), fun _ S => 12, fun _ S => 847, fun _ S rv S' => rv = none ∧ (wiP S S' F j w p r d5 nw od), fun _ _ _ _ => False)
def tX9_init : CD := [(0, .aload_n 0), (1, .invokespecial 3), (4, .aload_n 0), (5, .new 9), (8, .dup), (9, .invokespecial 11), (12, .putfield 12), (15, .aload_n 0), (16, .new 9), (19, .dup), (20, .invokespecial 11), (23, .putfield 18), (26, .aload_n 0), (27, .new 9), (30, .dup), (31, .invokespecial 11), (34, .putfield 21), (37, .aload_n 0), (38, .new 9), (41, .dup), (42, .invokespecial 11), (45, .putfield 24), (48, .aload_n 0), (49, .new 9), (52, .dup), (53, .invokespecial 11), (56, .putfield 27), (59, .aload_n 0), (60, .sipush 256), (63, .newarray .int), (65, .putfield 30), (68, .aload_n 0), (69, .sipush 256), (72, .newarray .int), (74, .putfield 34), (77, .aload_n 0), (78, .iconst 0), (79, .putfield 37), (82, .aload_n 0), (83, .aconst_null), (84, .putfield 41), (87, .aload_n 0), (88, .aconst_null), (89, .putfield 45), (92, .aload_n 0), (93, .iconst 0), (94, .putfield 48), (97, .aload_n 0), (98, .iconst 0), (99, .putfield 51), (102, .aload_n 0), (103, .aconst_null), (104, .putfield 54), (107, .aload_n 0), (108, .iconst 0), (109, .putfield 57), (112, .aload_n 0), (113, .aload_n 1), (114, .putfield 60), (117, .return_)]
set_option maxRecDepth 100000 in
theorem kX9_init : chk cX9_init tX9_init = true := by decide +kernel
theorem vX9_init_3 : ∀ w ∈ ([.methodLink RX9 3 Lib.objectInit, .instanceMethod Lib.objectInit, .code Lib.objectInit ⟨#[0xb1]⟩ 1 none] : List Cond), w ∈ lw_good := List.forall_mem_cons.mpr ⟨mgd 484 (by decide +kernel) (by decide +kernel), List.forall_mem_cons.mpr ⟨mgd 158 (by decide +kernel) (by decide +kernel), List.forall_mem_cons.mpr ⟨mgd 159 (by decide +kernel) (by decide +kernel), fun _ h => absurd h List.not_mem_nil⟩⟩⟩
theorem vX9_init_11 : ∀ w ∈ ([.instanceMethod yX1_init, .initialized yX1_init.cls, .code yX1_init cX1_init 1 none] : List Cond), w ∈ lw_good := List.forall_mem_cons.mpr ⟨mgd 163 (by decide +kernel) (by decide +kernel), List.forall_mem_cons.mpr ⟨mgd 122 (by decide +kernel) (by decide +kernel), List.forall_mem_cons.mpr ⟨mgd 164 (by decide +kernel) (by decide +kernel), fun _ h => absurd h List.not_mem_nil⟩⟩⟩
set_option maxRecDepth 100000 in
set_option maxHeartbeats 2000000 in
theorem c_wini (l : Launch) : ∀ (w : Nat) (p : Nat) (F : Nat → Nat × Nat) (j r d5 nw od : Nat), Ct l yX9_init cX9_init 2 none 2 40 (sp_wini w p F j r d5 nw od) := by
  intro w p F j r d5 nw od
  refine Ct.of (fX9, nX9, aX9, iX9, lX9, [(3, 1, 1, 0, T_obj), (11, 1, 1, 0, T_bini)], qX9, gX9, []) true tX9_init (fun _ S => look [(15, ([0,1], I_wi 1 w p F j S)), (26, ([0,1], I_wi 2 w p F j S)), (37, ([0,1], I_wi 3 w p F j S)), (48, ([0,1], I_wi 4 w p F j S)), (59, ([0,1], I_wi 5 w p F j S)), (77, ([0,1], I_wi7 w p F j S))]) (by decide) (by decide) kX9_init ⟨_, _, rfl⟩ fX9_ok nX9_ok aX9_ok iX9_ok lX9_ok (fun p e R s m args below meth c Q D cy z r A C hR1 hR2 => List.forall_mem_cons.mpr ⟨cOK_use (fun _ _ _ _ _ _ _ _ h => ⟨spObj, cOK_obj C vX9_init_3 ⟨by rw [hR1]; decide, by rw [hR2]; decide⟩, T_obj_ok h⟩), List.forall_mem_cons.mpr ⟨cOK_use (fun _ _ _ _ _ _ _ _ h => let ⟨sp, h1, h2, h3⟩ := u_bini l _ _ _ _ _ _ _ _ h; ⟨sp, cOK_I C h1 vX9_init_11 (Or.inr ⟨"WeaveText", mbd 486 (by decide +kernel) (by decide +kernel)⟩) rfl ⟨by decide, by decide, by decide +kernel⟩ ⟨by rw [hR1]; decide, by rw [hR2]; decide⟩ h2, h3⟩), fun _ h => absurd h List.not_mem_nil⟩⟩) qX9_ok gX9_ok rfl ?_ ?_
  · rintro _ S ⟨rfl, hp⟩
    refine ⟨Nat.le_of_ble_eq_true rfl, 300, ?_⟩
    show (1 = 1 ∧ (True ∧ 0 ≤ 12 ∧ 0 ≤ 847 ∧ ((0 + 1 ≤ 12 ∧ 0 + 3 ≤ 847 ∧ ∀ q_2, q_2 ∉ mL S → (1 = 1 ∧ ((isO (nO S q_2 2) 2 q_2) ∧ 0 + 1 + 1 ≤ 12 ∧ 0 + 3 + 64 ≤ 847 ∧ (∀ (S_3 : MM), (∃ q, q ∉ mL (nO S q_2 2) ∧ S_3 = sI (sI (sR (nA (nO S q_2 2) q 16 64) 200 q_2 (some q)) 201 q_2 0) 202 q_2 0) → (true = true ∧ (isO S_3 10 w ∧ (∃ k1, I_wi 1 w p F j S k1 [(0, .inr (.inr (some w))), (1, .inr (.inr (some p)))] [] (sR S_3 1000 w (some q_2)) (0 + 1 + 1) (0 + 3 + 64)))))))))))
    obtain ⟨h1, h2, h3, h4, h5, h6, h7⟩ := hp
    have h0 : wiX S (fun b => if b = w then (j, 1) else F b) j w 0 S (fun b => if b = w then (j, 1) else F b) (fun _ => 0) (fun _ => 0) := ⟨h1, if_pos rfl, fun i hi => absurd hi (Nat.not_lt_zero i), fun b hb => by
      by_cases e : b = w
      · rw [e]; exact h1.1
      · have hb : (if b = w then (j, 1) else F b) ≠ (0, 0) := hb
        rw [if_neg e] at hb; exact h2 b hb, fun _ _ _ => rfl, Keep.rf⟩
    refine ⟨rfl, trivial, Nat.zero_le _, Nat.zero_le _, by decide, by decide, fun q hq => ⟨rfl, isO_nO_self, by decide, by decide, fun S3 hS3 => ?_⟩⟩
    obtain ⟨e, he, rfl⟩ := hS3
    obtain ⟨a1, a2, a3, a4, a5, a6⟩ := h0.nw (by decide) hq he
    exact ⟨rfl, (newB_keep hq he).isO h1, 7 - 1, _, _, _, rfl, ⟨a1, a2, a3, a4, fun b hb hbr => (a5 b hb hbr).trans (if_neg hbr), a6⟩, rfl, rfl, rfl, rfl⟩
  · intro av S hpre pc I hI k lo st S1 cs sl h
    obtain ⟨rfl, hp⟩ := hpre
    have hm := look_in hI
    simp only [List.mem_cons, List.not_mem_nil, or_false] at hm
    rcases hm with hm | hm | hm | hm | hm | hm
    · cases hm
      obtain ⟨F1, a, d, rfl, hX, rfl, rfl, rfl, rfl⟩ := h
      refine ⟨300, ?_⟩
      show (2 * 1 + 1 ≤ 12 ∧ 67 * 1 + 3 ≤ 847 ∧ ∀ q_1, q_1 ∉ mL S1 → (1 = 1 ∧ ((isO (nO S1 q_1 2) 2 q_1) ∧ 2 * 1 + 1 + 1 ≤ 12 ∧ 67 * 1 + 3 + 64 ≤ 847 ∧ (∀ (S_2 : MM), (∃ q, q ∉ mL (nO S1 q_1 2) ∧ S_2 = sI (sI (sR (nA (nO S1 q_1 2) q 16 64) 200 q_1 (some q)) 201 q_1 0) 202 q_1 0) → (true = true ∧ (isO S_2 10 w ∧ (∃ k1, k1 < 7 - 1 ∧ I_wi 2 w p F j S k1 [(0, .inr (.inr (some w))), (1, .inr (.inr (some p)))] [] (sR S_2 1001 w (some q_1)) (2 * 1 + 1 + 1) (67 * 1 + 3 + 64))))))))
      refine ⟨by decide, by decide, fun q hq => ⟨rfl, isO_nO_self, by decide, by decide, fun S3 hS3 => ?_⟩⟩
      obtain ⟨e, he, rfl⟩ := hS3
      exact ⟨rfl, (newB_keep hq he).isO hX.1, 7 - 2, by decide, _, _, _, rfl, hX.nw (by decide) hq he, rfl, rfl, rfl, rfl⟩
    · cases hm
      obtain ⟨F1, a, d, rfl, hX, rfl, rfl, rfl, rfl⟩ := h
      refine ⟨300, ?_⟩
      show (2 * 2 + 1 ≤ 12 ∧ 67 * 2 + 3 ≤ 847 ∧ ∀ q_1, q_1 ∉ mL S1 → (1 = 1 ∧ ((isO (nO S1 q_1 2) 2 q_1) ∧ 2 * 2 + 1 + 1 ≤ 12 ∧ 67 * 2 + 3 + 64 ≤ 847 ∧ (∀ (S_2 : MM), (∃ q, q ∉ mL (nO S1 q_1 2) ∧ S_2 = sI (sI (sR (nA (nO S1 q_1 2) q 16 64) 200 q_1 (some q)) 201 q_1 0) 202 q_1 0) → (true = true ∧ (isO S_2 10 w ∧ (∃ k1, k1 < 7 - 2 ∧ I_wi 3 w p F j S k1 [(0, .inr (.inr (some w))), (1, .inr (.inr (some p)))] [] (sR S_2 1002 w (some q_1)) (2 * 2 + 1 + 1) (67 * 2 + 3 + 64))))))))
      refine ⟨by decide, by decide, fun q hq => ⟨rfl, isO_nO_self, by decide, by decide, fun S3 hS3 => ?_⟩⟩
      obtain ⟨e, he, rfl⟩ := hS3
      exact ⟨rfl, (newB_keep hq he).isO hX.1, 7 - 3, by decide, _, _, _, rfl, hX.nw (by decide) hq he, rfl, rfl, rfl, rfl⟩
    · cases hm
      obtain ⟨F1, a, d, rfl, hX, rfl, rfl, rfl, rfl⟩ := h
      refine ⟨300, ?_⟩
      show (2 * 3 + 1 ≤ 12 ∧ 67 * 3 + 3 ≤ 847 ∧ ∀ q_1, q_1 ∉ mL S1 → (1 = 1 ∧ ((isO (nO S1 q_1 2) 2 q_1) ∧ 2 * 3 + 1 + 1 ≤ 12 ∧ 67 * 3 + 3 + 64 ≤ 847 ∧ (∀ (S_2 : MM), (∃ q, q ∉ mL (nO S1 q_1 2) ∧ S_2 = sI (sI (sR (nA (nO S1 q_1 2) q 16 64) 200 q_1 (some q)) 201 q_1 0) 202 q_1 0) → (true = true ∧ (isO S_2 10 w ∧ (∃ k1, k1 < 7 - 3 ∧ I_wi 4 w p F j S k1 [(0, .inr (.inr (some w))), (1, .inr (.inr (some p)))] [] (sR S_2 1003 w (some q_1)) (2 * 3 + 1 + 1) (67 * 3 + 3 + 64))))))))
      refine ⟨by decide, by decide, fun q hq => ⟨rfl, isO_nO_self, by decide, by decide, fun S3 hS3 => ?_⟩⟩
      obtain ⟨e, he, rfl⟩ := hS3
      exact ⟨rfl, (newB_keep hq he).isO hX.1, 7 - 4, by decide, _, _, _, rfl, hX.nw (by decide) hq he, rfl, rfl, rfl, rfl⟩
    · cases hm
      obtain ⟨F1, a, d, rfl, hX, rfl, rfl, rfl, rfl⟩ := h
      refine ⟨300, ?_⟩
      show (2 * 4 + 1 ≤ 12 ∧ 67 * 4 + 3 ≤ 847 ∧ ∀ q_1, q_1 ∉ mL S1 → (1 = 1 ∧ ((isO (nO S1 q_1 2) 2 q_1) ∧ 2 * 4 + 1 + 1 ≤ 12 ∧ 67 * 4 + 3 + 64 ≤ 847 ∧ (∀ (S_2 : MM), (∃ q, q ∉ mL (nO S1 q_1 2) ∧ S_2 = sI (sI (sR (nA (nO S1 q_1 2) q 16 64) 200 q_1 (some q)) 201 q_1 0) 202 q_1 0) → (true = true ∧ (isO S_2 10 w ∧ (∃ k1, k1 < 7 - 4 ∧ I_wi 5 w p F j S k1 [(0, .inr (.inr (some w))), (1, .inr (.inr (some p)))] [] (sR S_2 1004 w (some q_1)) (2 * 4 + 1 + 1) (67 * 4 + 3 + 64))))))))
      refine ⟨by decide, by decide, fun q hq => ⟨rfl, isO_nO_self, by decide, by decide, fun S3 hS3 => ?_⟩⟩
      obtain ⟨e, he, rfl⟩ := hS3
      exact ⟨rfl, (newB_keep hq he).isO hX.1, 7 - 5, by decide, _, _, _, rfl, hX.nw (by decide) hq he, rfl, rfl, rfl, rfl⟩
    · cases hm
      obtain ⟨F1, a, d, rfl, hX, rfl, rfl, rfl, rfl⟩ := h
      refine ⟨300, ?_⟩
      show (¬ (256 : Int32) < 0 ∧ (256 : Int32).toNatClampNeg * 8 ≤ 536870912 ∧ 2 * 5 + 1 ≤ 12 ∧ 67 * 5 + (256 : Int32).toNatClampNeg ≤ 847 ∧ ∀ q_1, q_1 ∉ mL S1 → (true = true ∧ (isO (nA S1 q_1 17 (256 : Int32).toNatClampNeg) 10 w ∧ (¬ (256 : Int32) < 0 ∧ (256 : Int32).toNatClampNeg * 8 ≤ 536870912 ∧ 2 * 5 + 1 + 1 ≤ 12 ∧ 67 * 5 + (256 : Int32).toNatClampNeg + (256 : Int32).toNatClampNeg ≤ 847 ∧ ∀ q_2, q_2 ∉ mL (sR (nA S1 q_1 17 (256 : Int32).toNatClampNeg) 1006 w (some q_1)) → (true = true ∧ (isO (nA (sR (nA S1 q_1 17 (256 : Int32).toNatClampNeg) 1006 w (some q_1)) q_2 17 (256 : Int32).toNatClampNeg) 10 w ∧ (∃ k1, k1 < 7 - 5 ∧ I_wi7 w p F j S k1 [(0, .inr (.inr (some w))), (1, .inr (.inr (some p)))] [] (sR (nA (sR (nA S1 q_1 17 (256 : Int32).toNatClampNeg) 1006 w (some q_1)) q_2 17 (256 : Int32).toNatClampNeg) 1007 w (some q_2)) (2 * 5 + 1 + 1) (67 * 5 + (256 : Int32).toNatClampNeg + (256 : Int32).toNatClampNeg))))))))
      rw [show Int32.toNatClampNeg 256 = 256 from by decide]
      refine ⟨by decide, by decide, by decide, by decide, fun q hq => ?_⟩
      obtain ⟨a1, a2, a3, a4, a5, a6⟩ := hX.arr (c := 1006) (kd := 17) (n := 256) (ro := 2) hq (by decide) (by decide)
      refine ⟨rfl, isO_nA hX.1 hq, by decide, by decide, by decide, by decide, fun q2 hq2 => ?_⟩
      obtain ⟨b1, b2, b3, b4, b5, b6⟩ := a1.arr (c := 1007) (kd := 17) (n := 256) (ro := 3) hq2 (by decide) (by decide)
      refine ⟨rfl, isO_nA a1.1 hq2, 0, by decide, _, a, d, q, q2, rfl, b1, ?_, b3.isO a5, (b3.1 q a5.1).2.2.trans a6, (b2 q a5.1).trans (if_pos rfl), ?_, b5, b6, if_pos rfl, rfl, rfl, rfl, rfl⟩
      · rw [b4 1006 (by decide), mR_sR, if_pos ⟨rfl, rfl⟩]
      · rw [mR_sR, if_pos ⟨rfl, rfl⟩]
    · cases hm
      obtain ⟨F1, a, d, pl, me, rfl, hX, i1, i2, i3, i4, f1, f2, f3, f4, rfl, rfl, rfl, rfl⟩ := h
      refine ⟨300, ?_⟩
      show (True ∧ (isO S1 10 w ∧ (True ∧ (isO (sI S1 1008 w (0 : Int32)) 10 w ∧ (True ∧ (isO (sR (sI S1 1008 w (0 : Int32)) 1009 w none) 10 w ∧ (True ∧ (isO (sR (sR (sI S1 1008 w (0 : Int32)) 1009 w none) 1010 w none) 10 w ∧ (True ∧ (isO (sI (sR (sR (sI S1 1008 w (0 : Int32)) 1009 w none) 1010 w none) 1011 w (0 : Int32)) 10 w ∧ (True ∧ (isO (sI (sI (sR (sR (sI S1 1008 w (0 : Int32)) 1009 w none) 1010 w none) 1011 w (0 : Int32)) 1012 w (0 : Int32)) 10 w ∧ (True ∧ (isO (sR (sI (sI (sR (sR (sI S1 1008 w (0 : Int32)) 1009 w none) 1010 w none) 1011 w (0 : Int32)) 1012 w (0 : Int32)) 1013 w none) 10 w ∧ (true = true ∧ (isO (sI (sR (sI (sI (sR (sR (sI S1 1008 w (0 : Int32)) 1009 w none) 1010 w none) 1011 w (0 : Int32)) 1012 w (0 : Int32)) 1013 w none) 1014 w (0 : Int32)) 10 w ∧ (([] : List MV) = [] ∧ mret none (sp_wini w p F j r d5 nw od) [.inr (.inr (some w)), .inr (.inr (some p))] S none (sR (sI (sR (sI (sI (sR (sR (sI S1 1008 w (0 : Int32)) 1009 w none) 1010 w none) 1011 w (0 : Int32)) 1012 w (0 : Int32)) 1013 w none) 1014 w (0 : Int32)) 1005 w (some p)) 12 847)))))))))))))))))
      have w9 : RW (fun _ => False) [1005, 1008, 1009, 1010, 1011, 1012, 1013, 1014] w S1 (sR (sI (sR (sI (sI (sR (sR (sI S1 1008 w 0) 1009 w none) 1010 w none) 1011 w 0) 1012 w 0) 1013 w none) 1014 w 0) 1005 w (some p)) := (((((((RW.rf.wI (by decide)).wR (by decide)).wR (by decide)).wI (by decide)).wI (by decide)).wR (by decide)).wI (by decide)).wR (by decide)
      have o0 := hX.1
      have o1 : isO (sI S1 1008 w 0) 10 w := isO_sI o0
      have o2 : isO (sR (sI S1 1008 w 0) 1009 w none) 10 w := isO_sR o1
      have o3 : isO (sR (sR (sI S1 1008 w 0) 1009 w none) 1010 w none) 10 w := isO_sR o2
      have o4 : isO (sI (sR (sR (sI S1 1008 w 0) 1009 w none) 1010 w none) 1011 w 0) 10 w := isO_sI o3
      have o5 : isO (sI (sI (sR (sR (sI S1 1008 w 0) 1009 w none) 1010 w none) 1011 w 0) 1012 w 0) 10 w := isO_sI o4
      have o6 : isO (sR (sI (sI (sR (sR (sI S1 1008 w 0) 1009 w none) 1010 w none) 1011 w 0) 1012 w 0) 1013 w none) 10 w := isO_sR o5
      have o7 : isO (sI (sR (sI (sI (sR (sR (sI S1 1008 w 0) 1009 w none) 1010 w none) 1011 w 0) 1012 w 0) 1013 w none) 1014 w 0) 10 w := isO_sI o6
      have o8 : isO (sR (sI (sR (sI (sI (sR (sR (sI S1 1008 w 0) 1009 w none) 1010 w none) 1011 w 0) 1012 w 0) 1013 w none) 1014 w 0) 1005 w (some p)) 10 w := isO_sR o7
      have m5 : mR (sR (sI (sR (sI (sI (sR (sR (sI S1 1008 w 0) 1009 w none) 1010 w none) 1011 w 0) 1012 w 0) 1013 w none) 1014 w 0) 1005 w (some p)) 1005 w = some p := by rw [mR_sR, if_pos ⟨rfl, rfl⟩]
      generalize hS9 : sR (sI (sR (sI (sI (sR (sR (sI S1 1008 w 0) 1009 w none) 1010 w none) 1011 w 0) 1012 w 0) 1013 w none) 1014 w 0) 1005 w (some p) = S9 at w9 o8 m5 ⊢
      obtain ⟨x1, x2, x3, x4, x5, x6⟩ := hX
      obtain ⟨g1, g2, g3, g4, g5, g6, g7⟩ := hp
      have wn : ∀ b, F b ≠ (0, 0) → b ≠ w := fun b hb e => hb (e ▸ g7)
      have kk : Keep (fun b => b = w) S S9 := x6.tr (w9.1.mono (fun b _ z => z.elim id False.elim))
      have pw : p ≠ w := wn p (by rw [g4]; intro z; injection z with z1; exact g3 z1)
      have e5 : ∀ {x}, x ∈ mL S → x ≠ w → F1 x = F x := fun {x} hx hxw => x5 x hx hxw
      have i5 : ∀ i, i < 5 → updN (updN (updN a 5 r) 6 nw) 7 od i = a i := fun i hi => by
        unfold updN
        rw [if_neg (by omega), if_neg (by omega), if_neg (by omega)]
      have d5' : ∀ i, i < 5 → updN d 5 d5 i = d i := fun i hi => if_neg (by omega)
      have cw : ∀ i, i < 5 → a i ≠ w ∧ d i ≠ w := fun i hi => ⟨fun z => by
        have z1 := (x3 i hi).2.2.1; rw [z, x2] at z1; injection z1 with _ z2; omega, fun z => by
        have z1 := (x3 i hi).2.2.2.1; rw [z, x2] at z1; injection z1 with _ z2; omega⟩
      have fne : ∀ {x v}, F x = (j, v) → F x ≠ (0, 0) := fun {x v} e z => by rw [e] at z; injection z with z1; exact g3 z1
      refine ⟨trivial, o0, trivial, o1, trivial, o2, trivial, o3, trivial, o4, trivial, o5, trivial, o6, rfl, o7, rfl, trivial, ⟨rfl, F1, updN (updN (updN a 5 r) 6 nw) 7 od, updN d 5 d5, pl, me, ⟨x2, i4, f4, (e5 g5.1.1.1 pw).trans g4, ⟨o8, (w9.2.2.1 1006 (by decide)).trans i1, w9.1.isO i2, (w9.1.1 pl i2.1).2.2.trans i3, (w9.2.2.1 1007 (by decide)).trans f1, w9.1.isO f2, (w9.1.1 me f2.1).2.2.trans f3, fun z => by rw [z, f4] at i4; injection i4 with _ z2; exact absurd z2 (by decide)⟩, fun k hk => ?_, m5, kk.isO g5.1.1, ?_, fun k hk => ?_, fun b hb => (w9.1.1 b (x4 b hb)).1, g3, ⟨(g5.keep kk pw (F' := F) (fun _ _ => rfl)).1, (e5 g5.1.2.2.2.1.1 (wn _ (fne g5.2.1))).trans g5.2.1, (e5 g5.1.2.2.2.2.2.2.1.1 (wn _ (fne g5.2.2))).trans g5.2.2⟩⟩, fun b hb => (w9.1.1 b (x4 b hb)).1, x5, kk, ?_, ?_, ?_, ?_⟩, Nat.le_refl _, Nat.le_refl _⟩
      · rw [i5 k hk]
        exact (w9.2.2.1 (1000 + k) (by simp only [List.mem_cons, List.not_mem_nil, or_false]; omega)).trans (x3 k hk).1
      · exact ((kk.2.1 p g5.1.1.1 pw).2.1 800).trans g5.1.2.1
      · by_cases e : k = 5
        · subst e
          have na := wn _ (fne g6.2.1)
          have nd := wn _ (fne g6.2.2.1)
          exact ⟨g6.1.keep kk na nd, (e5 g6.1.1.1 na).trans g6.2.1, (e5 g6.1.2.2.1.1 nd).trans g6.2.2.1, ((kk.2.1 _ g6.1.1.1 na).1 202).trans g6.2.2.2.1, (kk.1 _ g6.1.2.2.1.1).2.2.trans g6.2.2.2.2⟩
        · rw [i5 k (by omega), d5' k (by omega)]
          exact (x3 k (by omega)).2.keep (w9.1.mono (fun b _ z => z.elim id False.elim)) (cw k (by omega)).1 (cw k (by omega)).2 (fun _ _ => rfl)
      · rfl
      · rfl
      · rfl
      · rfl
theorem u_wini (l : Launch) : Us l yX9_init cX9_init 2 none 2 40 98 T_wini := by
  intro Rc Rs av S cs sl K Kx h
  unfold T_wini at h
  split at h
  · rename_i w_o p_o
    obtain ⟨w, rfl, h_1⟩ := pa_of h
    obtain ⟨p, rfl, h_2⟩ := pa_of h_1
    obtain ⟨F, j, r, d5, nw, od, hp, hc, hs, hk⟩ := h_2
    refine ⟨(sp_wini w p F j r d5 nw od), c_wini l w p F j r d5 nw od, fun _ _ h9 => ⟨_, _, h9.1⟩, ⟨rfl, hp⟩, hc, hs, fun S' h8 => by
      obtain ⟨-, h8⟩ := h8
      exact hk _ h8, fun _ _ q => q.elim⟩
  · exact h.elim
