/-! ===== PatchWriter.begin ===== -/
section BGN
variable {S S' : MM} {F : Nat → Nat × Nat} {j w pk pl me : Nat} {a d : Nat → Nat} {V V' : Nat → List Int32} {cap cap' : Nat → Nat} {M : List Nat}
theorem WC.cg (h : WC S F j a d V cap) (he : ∀ k, k < 6 → V' k = V k ∧ cap' k = cap k) : WC S F j a d V' cap' := fun k hk => by
  rw [(he k hk).1, (he k hk).2]; exact h k hk
theorem PW.cg (h : PW S F j w pk pl me a d V cap M) (he : ∀ k, k < 6 → V' k = V k ∧ cap' k = cap k) : PW S F j w pk pl me a d V' cap' M := by
  obtain ⟨f1, f2, f3, f4, hM, h1, h2, h3, h4, hW, hF, hj, hK⟩ := h
  exact ⟨f1, f2, f3, f4, hM, h1, h2, h3, h4, hW.cg he, hF, hj, hK⟩
theorem PW.emp {k : Nat} (h : PW S F j w pk pl me a d V cap M) (hk6 : k < 6) : PW (clr S (a k)) F j w pk pl me a d (updI V k []) (updN cap k (capN (V k).length (cap k) 0)) M ∧ Keep (fun b => (F b).1 = j) S (clr S (a k)) := by
  obtain ⟨f1, f2, f3, f4, hM, h1, h2, h3, h4, hW, hF, hj, hK⟩ := h
  obtain ⟨c1, c2⟩ := (hW k hk6).clr
  have nP : ∀ {b r : Nat}, F b = (j, r) → r ≠ 40 + 2 * k → ¬ F b = (j, 40 + 2 * k) := fun hb hr => pr_ne hb hr
  have kw := c2.2.1 w hM.1.1 (nP f1 (by omega))
  have kp := c2.2.1 pk h3.1 (nP f4 (by omega))
  refine ⟨⟨f1, f2, f3, f4, hM.keep c2 (nP f1 (by omega)) (nP f2 (by omega)) (nP f3 (by omega)), fun i hi => (kw.2.1 _).trans (h1 i hi), (kw.2.1 _).trans h2, c2.isO h3, (kp.2.1 _).trans h4, fun i hi => ?_, hF, hj, hK.keep c2 (nP f4 (by omega)) (fun _ _ => rfl)⟩, c2.mono (fun b _ z => by rw [z])⟩
  by_cases q : i = k
  · subst q
    rw [updI_s, updN_s, ← (hW i hi).2.2.2.2]; exact c1
  · rw [updI_o q, updN_o q]
    exact (hW i hi).keep c2 (nP (hW i hi).2.1 (by omega)) (nP (hW i hi).2.2.1 (by omega)) (fun _ _ => rfl)
theorem PW.reset {f : Nat → Int32} (h : PW S F j w pk pl me a d V cap M) (hf : ∀ x, x < 256 → f x = -1) : PW (sI (rI S pl f) 1008 w 0) F j w pk pl me a d V cap [] ∧ Keep (fun b => (F b).1 = j) S (sI (rI S pl f) 1008 w 0) := by
  obtain ⟨f1, f2, f3, f4, hM, h1, h2, h3, h4, hW, hF, hj, hK⟩ := h
  obtain ⟨m1, m2, m3, m4, m5, m6, m7, m8, m9, nd, lt, p1, p2⟩ := hM
  have hk : Keep (fun b => b = pl ∨ b = w) S (sI (rI S pl f) 1008 w 0) := Keep.sI (P := fun b => b = pl ∨ b = w) (Keep.rI (P := fun b => b = pl ∨ b = w) Keep.rf (Or.inl rfl)) (Or.inr rfl)
  have nP : ∀ {b r : Nat}, F b = (j, r) → 2 < r → ¬ (b = pl ∨ b = w) := fun hb hr z => z.elim (fun e => f_ne hb f2 (by omega) e) (fun e => f_ne hb f1 (by omega) e)
  refine ⟨⟨f1, f2, f3, f4, ⟨isO_sI (isO_rI m1), m2, isO_sI (isO_rI m3), m4, m5, isO_sI (isO_rI m6), m7, m8, ?_, List.nodup_nil, fun x hx => absurd hx List.not_mem_nil, fun x hx => ?_, fun k hk9 => absurd hk9 (Nat.not_lt_zero _)⟩, h1, h2, isO_sI (isO_rI h3), h4, hW.keep hk (fun b k _ z => z.elim (fun e => nP e (by omega)) (fun e => nP e (by omega))) (fun _ _ => rfl), hF, hj, hK.keep hk (nP f4 (by decide)) (fun _ _ => rfl)⟩, hk.mono (fun b _ z => z.elim (fun e => by rw [e, f2]) (fun e => by rw [e, f1]))⟩
  · rw [mI_sI, if_pos ⟨rfl, rfl⟩]; rfl
  · rw [eI_sI, eI_rI, if_pos rfl, hf x hx, if_neg List.not_mem_nil]
/-- the writer before its first message: no matter what its places hold -/
def MetR0 (S : MM) (w pl me : Nat) : Prop := isO S 10 w ∧ mR S 1006 w = some pl ∧ isO S 17 pl ∧ mN S pl = 256 ∧ mR S 1007 w = some me ∧ isO S 17 me ∧ mN S me = 256 ∧ pl ≠ me
def PW0 (S : MM) (F : Nat → Nat × Nat) (j w pk pl me : Nat) (a d : Nat → Nat) (V : Nat → List Int32) (cap : Nat → Nat) : Prop :=
  F w = (j, 1) ∧ F pl = (j, 2) ∧ F me = (j, 3) ∧ F pk = (j, 4) ∧ MetR0 S w pl me ∧ (∀ k, k < 5 → mR S (1000 + k) w = some (a k)) ∧ mR S 1005 w = some pk ∧ isO S 8 pk ∧ mR S 800 pk = some (a 5) ∧ WC S F j a d V cap ∧ FO S F ∧ j ≠ 0 ∧ PkF S F j pk (a 5) (a 6) (a 7)
theorem PW.pw0 (h : PW S F j w pk pl me a d V cap M) : PW0 S F j w pk pl me a d V cap := by
  obtain ⟨f1, f2, f3, f4, hM, h1⟩ := h
  exact ⟨f1, f2, f3, f4, ⟨hM.1, hM.2.1, hM.2.2.1, hM.2.2.2.1, hM.2.2.2.2.1, hM.2.2.2.2.2.1, hM.2.2.2.2.2.2.1, hM.2.2.2.2.2.2.2.1⟩, h1⟩
theorem MetR0.keep {P : Nat → Prop} (h : MetR0 S w pl me) (hk : Keep P S S') (h1 : ¬ P w) (_ : ¬ P pl) (_ : ¬ P me) : MetR0 S' w pl me := by
  obtain ⟨m1, m2, m3, m4, m5, m6, m7, m8⟩ := h
  have kw := hk.2.1 w m1.1 h1
  exact ⟨hk.isO m1, (kw.2.1 _).trans m2, hk.isO m3, (hk.1 pl m3.1).2.2.trans m4, (kw.2.1 _).trans m5, hk.isO m6, (hk.1 me m6.1).2.2.trans m7, m8⟩
theorem PW0.cg (h : PW0 S F j w pk pl me a d V cap) (he : ∀ k, k < 6 → V' k = V k ∧ cap' k = cap k) : PW0 S F j w pk pl me a d V' cap' := by
  obtain ⟨f1, f2, f3, f4, hM, h1, h2, h3, h4, hW, hF, hj, hK⟩ := h
  exact ⟨f1, f2, f3, f4, hM, h1, h2, h3, h4, hW.cg he, hF, hj, hK⟩
theorem PW0.emp {k : Nat} (h : PW0 S F j w pk pl me a d V cap) (hk6 : k < 6) : PW0 (clr S (a k)) F j w pk pl me a d (updI V k []) (updN cap k (capN (V k).length (cap k) 0)) ∧ Keep (fun b => (F b).1 = j) S (clr S (a k)) := by
  obtain ⟨f1, f2, f3, f4, hM, h1, h2, h3, h4, hW, hF, hj, hK⟩ := h
  obtain ⟨c1, c2⟩ := (hW k hk6).clr
  have nP : ∀ {b r : Nat}, F b = (j, r) → r ≠ 40 + 2 * k → ¬ F b = (j, 40 + 2 * k) := fun hb hr => pr_ne hb hr
  have kw := c2.2.1 w hM.1.1 (nP f1 (by omega))
  have kp := c2.2.1 pk h3.1 (nP f4 (by omega))
  refine ⟨⟨f1, f2, f3, f4, hM.keep c2 (nP f1 (by omega)) (nP f2 (by omega)) (nP f3 (by omega)), fun i hi => (kw.2.1 _).trans (h1 i hi), (kw.2.1 _).trans h2, c2.isO h3, (kp.2.1 _).trans h4, fun i hi => ?_, hF, hj, hK.keep c2 (nP f4 (by omega)) (fun _ _ => rfl)⟩, c2.mono (fun b _ z => by rw [z])⟩
  by_cases q : i = k
  · subst q
    rw [updI_s, updN_s, ← (hW i hi).2.2.2.2]; exact c1
  · rw [updI_o q, updN_o q]
    exact (hW i hi).keep c2 (nP (hW i hi).2.1 (by omega)) (nP (hW i hi).2.2.1 (by omega)) (fun _ _ => rfl)
theorem PW0.reset {f : Nat → Int32} (h : PW0 S F j w pk pl me a d V cap) (hf : ∀ x, x < 256 → f x = -1) : PW (sI (rI S pl f) 1008 w 0) F j w pk pl me a d V cap [] ∧ Keep (fun b => (F b).1 = j) S (sI (rI S pl f) 1008 w 0) := by
  obtain ⟨f1, f2, f3, f4, hM, h1, h2, h3, h4, hW, hF, hj, hK⟩ := h
  obtain ⟨m1, m2, m3, m4, m5, m6, m7, m8⟩ := hM
  have hk : Keep (fun b => b = pl ∨ b = w) S (sI (rI S pl f) 1008 w 0) := Keep.sI (P := fun b => b = pl ∨ b = w) (Keep.rI (P := fun b => b = pl ∨ b = w) Keep.rf (Or.inl rfl)) (Or.inr rfl)
  have nP : ∀ {b r : Nat}, F b = (j, r) → 2 < r → ¬ (b = pl ∨ b = w) := fun hb hr z => z.elim (fun e => f_ne hb f2 (by omega) e) (fun e => f_ne hb f1 (by omega) e)
  refine ⟨⟨f1, f2, f3, f4, ⟨isO_sI (isO_rI m1), m2, isO_sI (isO_rI m3), m4, m5, isO_sI (isO_rI m6), m7, m8, ?_, List.nodup_nil, fun x hx => absurd hx List.not_mem_nil, fun x hx => ?_, fun k hk9 => absurd hk9 (Nat.not_lt_zero _)⟩, h1, h2, isO_sI (isO_rI h3), h4, hW.keep hk (fun b k _ z => z.elim (fun e => nP e (by omega)) (fun e => nP e (by omega))) (fun _ _ => rfl), hF, hj, hK.keep hk (nP f4 (by decide)) (fun _ _ => rfl)⟩, hk.mono (fun b _ z => z.elim (fun e => by rw [e, f2]) (fun e => by rw [e, f1]))⟩
  · rw [mI_sI, if_pos ⟨rfl, rfl⟩]; rfl
  · rw [eI_sI, eI_rI, if_pos rfl, hf x hx, if_neg List.not_mem_nil]
end BGN
def bgV (V : Nat → List Int32) : Nat → List Int32 := fun k => if k = 4 then V 4 else []
def bgC (V : Nat → List Int32) (cap : Nat → Nat) : Nat → Nat := fun k => if k = 4 then cap 4 else capN (V k).length (cap k) 0
def bgQ (S S' : MM) (F : Nat → Nat × Nat) (j w pk pl me : Nat) (a d : Nat → Nat) (V : Nat → List Int32) (cap : Nat → Nat) : Prop := PW S' F j w pk pl me a d (bgV V) (bgC V cap) [] ∧ Keep (fun b => (F b).1 = j) S S' ∧ mR S' 1009 w = none ∧ mR S' 1013 w = none ∧ mI S' 1014 w = 0
def bgs (n : Nat) (V : Nat → List Int32) : Nat → List Int32 := fun k => if k < n then [] else V k
def bgt (n : Nat) (V : Nat → List Int32) (cap : Nat → Nat) : Nat → Nat := fun k => if k < n then capN (V k).length (cap k) 0 else cap k
def I_bgw (n : Nat) (w : Nat) (F : Nat → Nat × Nat) (j pk pl me : Nat) (a d : Nat → Nat) (V : Nat → List Int32) (cap : Nat → Nat) (M : List Nat) (S : MM) (t : Nat) : KT := fun lo st S1 cs sl => t = 20 - n ∧ lo = [(0, .inr (.inr (some w)))] ∧ st = [] ∧ PW0 S1 F j w pk pl me a d (bgs n V) (bgt n V cap) ∧ Keep (fun b => (F b).1 = j) S S1 ∧ cs = 0 ∧ sl = 0
def I_bgx (w : Nat) (F : Nat → Nat × Nat) (j pk pl me : Nat) (a d : Nat → Nat) (V : Nat → List Int32) (cap : Nat → Nat) (M : List Nat) (n : Nat) (S : MM) (t : Nat) : KT := fun lo st S1 cs sl => t = 20 - n ∧ lo = [(0, .inr (.inr (some w)))] ∧ st = [] ∧ PW S1 F j w pk pl me a d (bgV V) (bgC V cap) M ∧ Keep (fun b => (F b).1 = j) S S1 ∧ (n = 7 → mR S1 1009 w = none) ∧ cs = 0 ∧ sl = 0
def I_bgy (w : Nat) (F : Nat → Nat × Nat) (j pk pl me : Nat) (a d : Nat → Nat) (V : Nat → List Int32) (cap : Nat → Nat) (M : List Nat) (n : Nat) (S : MM) (t : Nat) : KT := fun lo st S1 cs sl => t = 20 - n ∧ lo = [(0, .inr (.inr (some w)))] ∧ st = [] ∧ PW0 S1 F j w pk pl me a d (bgV V) (bgC V cap) ∧ Keep (fun b => (F b).1 = j) S S1 ∧ (n = 7 → mR S1 1009 w = none) ∧ cs = 0 ∧ sl = 0
theorem pw_clrn {S : MM} {F : Nat → Nat × Nat} {j w pk pl me : Nat} {a d : Nat → Nat} {V : Nat → List Int32} {cap : Nat → Nat} {n : Nat} (h : PW0 S F j w pk pl me a d (bgs n V) (bgt n V cap)) (hn : n < 6) : PW0 (clr S (a n)) F j w pk pl me a d (bgs (n + 1) V) (bgt (n + 1) V cap) ∧ Keep (fun b => (F b).1 = j) S (clr S (a n)) := by
  obtain ⟨h1, h2⟩ := h.emp hn
  refine ⟨h1.cg (fun k hk => ?_), h2⟩
  by_cases q : k = n
  · subst q
    rw [updI_s, updN_s]
    exact ⟨if_pos (Nat.lt_succ_self _), by
      show (if k < k + 1 then capN (V k).length (cap k) 0 else cap k) = capN (bgs k V k).length (bgt k V cap k) 0
      rw [if_pos (Nat.lt_succ_self _), show bgs k V k = V k from if_neg (Nat.lt_irrefl _), show bgt k V cap k = cap k from if_neg (Nat.lt_irrefl _)]⟩
  · rw [updI_o q, updN_o q]
    unfold bgs bgt
    by_cases r : k < n
    · rw [if_pos r, if_pos (show k < n + 1 by omega), if_pos r, if_pos (show k < n + 1 by omega)]; exact ⟨rfl, rfl⟩
    · rw [if_neg r, if_neg (show ¬ k < n + 1 by omega), if_neg r, if_neg (show ¬ k < n + 1 by omega)]; exact ⟨rfl, rfl⟩
def T_wbg : TR := fun Rc Rs av S cs sl K _Kx => match av with
  | [.inr (.inr w_o)] => pa w_o fun w => (∃ (F : Nat → Nat × Nat) (j pk pl me : Nat) (a d : Nat → Nat) (V : Nat → List Int32) (cap : Nat → Nat) (M : List Nat), (PW0 S F j w pk pl me a d V cap) ∧ cs ≤ Rc ∧ sl ≤ Rs ∧ (∀ (S' : MM), (bgQ S S' F j w pk pl me a d V cap) → K none S' cs sl))
  | _ => False
def sp_wbg (w : Nat) (F : Nat → Nat × Nat) (j pk pl me : Nat) (a d : Nat → Nat) (V : Nat → List Int32) (cap : Nat → Nat) (M : List Nat) : Sp := (fun av S => av = [.inr (.inr (some w))] ∧ (PW0 S F j w pk pl me a d V cap), fun _ S => 0, fun _ S => 0, fun _ S rv S' => rv = none ∧ (bgQ S S' F j w pk pl me a d V cap), fun _ _ _ _ => False)
def tX9_begin : CD := [(0, .aload_n 0), (1, .getfield 12), (4, .invokevirtual 120), (7, .aload_n 0), (8, .getfield 18), (11, .invokevirtual 120), (14, .aload_n 0), (15, .getfield 21), (18, .invokevirtual 120), (21, .aload_n 0), (22, .getfield 24), (25, .invokevirtual 120), (28, .aload_n 0), (29, .getfield 60), (32, .getfield 123), (35, .invokevirtual 120), (38, .aload_n 0), (39, .getfield 30), (42, .iconst (-1)), (43, .invokestatic 126), (46, .aload_n 0), (47, .iconst 0), (48, .putfield 37), (51, .aload_n 0), (52, .aconst_null), (53, .putfield 41), (56, .aload_n 0), (57, .aconst_null), (58, .putfield 45), (61, .aload_n 0), (62, .aconst_null), (63, .putfield 54), (66, .aload_n 0), (67, .iconst 0), (68, .putfield 57), (71, .return_)]
set_option maxRecDepth 100000 in
theorem kX9_begin : chk cX9_begin tX9_begin = true := by decide +kernel
theorem vX9_begin_120 : ∀ w ∈ ([.methodLink RX9 120 yX1_clear, .instanceMethod yX1_clear, .selects yX1_clear.cls yX1_clear yX1_clear, .initialized yX1_clear.cls, .code yX1_clear cX1_clear 1 none] : List Cond), w ∈ lw_good := List.forall_mem_cons.mpr ⟨mgd 1370 (by decide +kernel) (by decide +kernel), List.forall_mem_cons.mpr ⟨mgd 1053 (by decide +kernel) (by decide +kernel), List.forall_mem_cons.mpr ⟨mgd 1054 (by decide +kernel) (by decide +kernel), List.forall_mem_cons.mpr ⟨mgd 122 (by decide +kernel) (by decide +kernel), List.forall_mem_cons.mpr ⟨mgd 1055 (by decide +kernel) (by decide +kernel), fun _ h => absurd h List.not_mem_nil⟩⟩⟩⟩⟩
theorem vX9_begin_126 : ∀ w ∈ ([.methodLink RX9 126 yJ7_fill_53178, .static yJ7_fill_53178, .initialized yJ7_fill_53178.cls, .code yJ7_fill_53178 cJ7_fill_53178 4 none] : List Cond), w ∈ lw_good := List.forall_mem_cons.mpr ⟨mgd 1371 (by decide +kernel) (by decide +kernel), List.forall_mem_cons.mpr ⟨mgd 604 (by decide +kernel) (by decide +kernel), List.forall_mem_cons.mpr ⟨mgd 135 (by decide +kernel) (by decide +kernel), List.forall_mem_cons.mpr ⟨mgd 605 (by decide +kernel) (by decide +kernel), fun _ h => absurd h List.not_mem_nil⟩⟩⟩⟩
set_option maxRecDepth 100000 in
set_option maxHeartbeats 2000000 in
theorem c_wbg (l : Launch) : ∀ (w : Nat) (F : Nat → Nat × Nat) (j pk pl me : Nat) (a d : Nat → Nat) (V : Nat → List Int32) (cap : Nat → Nat) (M : List Nat), Ct l yX9_begin cX9_begin 1 none 1 23 (sp_wbg w F j pk pl me a d V cap M) := by
  intro w F j pk pl me a d V cap M
  refine Ct.of (fX9, nX9, aX9, iX9, lX9, [(120, 0, 1, 0, T_bclr), (126, 2, 2, 0, T_fillI)], qX9, gX9, []) false tX9_begin (fun _ S => look [(7, ([0], I_bgw 1 w F j pk pl me a d V cap M S)), (14, ([0], I_bgw 2 w F j pk pl me a d V cap M S)), (21, ([0], I_bgw 3 w F j pk pl me a d V cap M S)), (28, ([0], I_bgw 4 w F j pk pl me a d V cap M S)), (38, ([0], I_bgy w F j pk pl me a d V cap M 5 S)), (51, ([0], I_bgx w F j pk pl me a d V cap [] 6 S)), (61, ([0], I_bgx w F j pk pl me a d V cap [] 7 S))]) (by decide) (by decide) kX9_begin ⟨_, _, rfl⟩ fX9_ok nX9_ok aX9_ok iX9_ok lX9_ok (fun p e R s m args below meth c Q D cy z r A C hR1 hR2 => List.forall_mem_cons.mpr ⟨cOK_use (fun _ _ _ _ _ _ _ _ h => let ⟨sp, h1, h2, h3⟩ := u_bclr l _ _ _ _ _ _ _ _ h; ⟨sp, cOK_V C h1 vX9_begin_120 ⟨by decide, by decide, by decide +kernel⟩ ⟨by rw [hR1]; decide, by rw [hR2]; decide⟩ (k := 2) (T := TX1) (N := 3) rfl (by decide) h2, h3⟩), List.forall_mem_cons.mpr ⟨cOK_use (fun _ _ _ _ _ _ _ _ h => let ⟨sp, h1, _, h3⟩ := u_fillI l _ _ _ _ _ _ _ _ h; ⟨sp, cOK_S C h1 vX9_begin_126 ⟨by decide, by decide, by decide +kernel⟩ ⟨by rw [hR1]; decide, by rw [hR2]; decide⟩, h3⟩), fun _ h => absurd h List.not_mem_nil⟩⟩) qX9_ok gX9_ok rfl ?_ ?_
  · rintro _ S ⟨rfl, hp⟩
    refine ⟨Nat.le_of_ble_eq_true rfl, 300, ?_⟩
    show (isO S 10 w ∧ (0 = 0 ∧ ((pa (mR S 1000 w) fun a_1 => ((isO S 2 a_1) ∧ 0 ≤ 0 ∧ 0 ≤ 0 ∧ ((∃ k1, I_bgw 1 w F j pk pl me a d V cap M S k1 [(0, .inr (.inr (some w)))] [] (clr S a_1) 0 0)))))))
    have h0 : PW0 S F j w pk pl me a d (bgs 0 V) (bgt 0 V cap) := hp
    obtain ⟨p1, q1⟩ := pw_clrn h0 (n := 0) (by decide)
    exact ⟨hp.2.2.2.2.1.1, rfl, pa_i (hp.2.2.2.2.2.1 0 (by decide)) ⟨(hp.2.2.2.2.2.2.2.2.2.1 0 (by decide)).1.1, Nat.le_refl _, Nat.le_refl _, 20 - 1, rfl, rfl, rfl, p1, q1, rfl, rfl⟩⟩
  · intro av S hpre pc I hI k lo st S1 cs sl h
    obtain ⟨rfl, hp⟩ := hpre
    have hm := look_in hI
    simp only [List.mem_cons, List.not_mem_nil, or_false] at hm
    rcases hm with hm | hm | hm | hm | hm | hm | hm
    · cases hm
      obtain ⟨rfl, rfl, rfl, h1, hk, rfl, rfl⟩ := h
      refine ⟨300, ?_⟩
      show (isO S1 10 w ∧ (0 = 0 ∧ ((pa (mR S1 1001 w) fun a_1 => ((isO S1 2 a_1) ∧ 0 ≤ 0 ∧ 0 ≤ 0 ∧ ((∃ k1, k1 < 20 - 1 ∧ I_bgw 2 w F j pk pl me a d V cap M S k1 [(0, .inr (.inr (some w)))] [] (clr S1 a_1) 0 0)))))))
      obtain ⟨p1, q1⟩ := pw_clrn h1 (n := 1) (by decide)
      exact ⟨h1.2.2.2.2.1.1, rfl, pa_i (h1.2.2.2.2.2.1 1 (by decide)) ⟨(h1.2.2.2.2.2.2.2.2.2.1 1 (by decide)).1.1, Nat.le_refl _, Nat.le_refl _, 20 - 2, by decide, rfl, rfl, rfl, p1, hk.tr q1, rfl, rfl⟩⟩
    · cases hm
      obtain ⟨rfl, rfl, rfl, h1, hk, rfl, rfl⟩ := h
      refine ⟨300, ?_⟩
      show (isO S1 10 w ∧ (0 = 0 ∧ ((pa (mR S1 1002 w) fun a_1 => ((isO S1 2 a_1) ∧ 0 ≤ 0 ∧ 0 ≤ 0 ∧ ((∃ k1, k1 < 20 - 2 ∧ I_bgw 3 w F j pk pl me a d V cap M S k1 [(0, .inr (.inr (some w)))] [] (clr S1 a_1) 0 0)))))))
      obtain ⟨p1, q1⟩ := pw_clrn h1 (n := 2) (by decide)
      exact ⟨h1.2.2.2.2.1.1, rfl, pa_i (h1.2.2.2.2.2.1 2 (by decide)) ⟨(h1.2.2.2.2.2.2.2.2.2.1 2 (by decide)).1.1, Nat.le_refl _, Nat.le_refl _, 20 - 3, by decide, rfl, rfl, rfl, p1, hk.tr q1, rfl, rfl⟩⟩
    · cases hm
      obtain ⟨rfl, rfl, rfl, h1, hk, rfl, rfl⟩ := h
      refine ⟨300, ?_⟩
      show (isO S1 10 w ∧ (0 = 0 ∧ ((pa (mR S1 1003 w) fun a_1 => ((isO S1 2 a_1) ∧ 0 ≤ 0 ∧ 0 ≤ 0 ∧ ((∃ k1, k1 < 20 - 3 ∧ I_bgw 4 w F j pk pl me a d V cap M S k1 [(0, .inr (.inr (some w)))] [] (clr S1 a_1) 0 0)))))))
      obtain ⟨p1, q1⟩ := pw_clrn h1 (n := 3) (by decide)
      exact ⟨h1.2.2.2.2.1.1, rfl, pa_i (h1.2.2.2.2.2.1 3 (by decide)) ⟨(h1.2.2.2.2.2.2.2.2.2.1 3 (by decide)).1.1, Nat.le_refl _, Nat.le_refl _, 20 - 4, by decide, rfl, rfl, rfl, p1, hk.tr q1, rfl, rfl⟩⟩
    · cases hm
      obtain ⟨rfl, rfl, rfl, h1, hk, rfl, rfl⟩ := h
      refine ⟨300, ?_⟩
      show (isO S1 10 w ∧ (pa (mR S1 1005 w) fun a_1 => isO S1 8 a_1 ∧ (0 = 0 ∧ ((pa (mR S1 800 a_1) fun a_2 => ((isO S1 2 a_2) ∧ 0 ≤ 0 ∧ 0 ≤ 0 ∧ ((∃ k1, k1 < 20 - 4 ∧ I_bgy w F j pk pl me a d V cap M 5 S k1 [(0, .inr (.inr (some w)))] [] (clr S1 a_2) 0 0))))))))
      obtain ⟨p1, q1⟩ := h1.emp (k := 5) (by decide)
      have p2 : PW0 (clr S1 (a 5)) F j w pk pl me a d (bgV V) (bgC V cap) := p1.cg (fun k hk9 => by
        have hk9 : k = 0 ∨ k = 1 ∨ k = 2 ∨ k = 3 ∨ k = 4 ∨ k = 5 := by omega
        rcases hk9 with rfl | rfl | rfl | rfl | rfl | rfl <;> exact ⟨rfl, rfl⟩)
      exact ⟨h1.2.2.2.2.1.1, pa_i h1.2.2.2.2.2.2.1 ⟨h1.2.2.2.2.2.2.2.1, rfl, pa_i h1.2.2.2.2.2.2.2.2.1 ⟨(h1.2.2.2.2.2.2.2.2.2.1 5 (by decide)).1.1, Nat.le_refl _, Nat.le_refl _, 20 - 5, by decide, rfl, rfl, rfl, p2, hk.tr q1, fun z => absurd z (by decide), rfl, rfl⟩⟩⟩
    · cases hm
      obtain ⟨rfl, rfl, rfl, h1, hk, -, rfl, rfl⟩ := h
      refine ⟨300, ?_⟩
      show (isO S1 10 w ∧ (2 = 2 ∧ ((pa (mR S1 1006 w) fun a_1 => ((isO S1 17 a_1 ∧ mN S1 a_1 < 2147483648) ∧ 0 ≤ 0 ∧ 0 ≤ 0 ∧ ((True ∧ (isO (rI S1 a_1 (fillF (eI S1 a_1) (mN S1 a_1) (-1 : Int32))) 10 w ∧ (∃ k1, k1 < 20 - 5 ∧ I_bgx w F j pk pl me a d V cap [] 6 S k1 [(0, .inr (.inr (some w)))] [] (sI (rI S1 a_1 (fillF (eI S1 a_1) (mN S1 a_1) (-1 : Int32))) 1008 w (0 : Int32)) 0 0)))))))))
      have hM := h1.2.2.2.2.1
      have mp : mN S1 pl = 256 := hM.2.2.2.1
      obtain ⟨p6, q6⟩ := h1.reset (f := fillF (eI S1 pl) (mN S1 pl) (-1)) (fun x hx => fillF_in (by rw [mp]; exact hx))
      exact ⟨hM.1, rfl, pa_i hM.2.1 ⟨⟨hM.2.2.1, by rw [mp]; decide⟩, Nat.le_refl _, Nat.le_refl _, trivial, isO_rI hM.1, 20 - 6, by decide, rfl, rfl, rfl, p6, hk.tr q6, fun z => absurd z (by decide), rfl, rfl⟩⟩
    · cases hm
      obtain ⟨rfl, rfl, rfl, h1, hk, -, rfl, rfl⟩ := h
      refine ⟨300, ?_⟩
      show (True ∧ (isO S1 10 w ∧ (True ∧ (isO (sR S1 1009 w none) 10 w ∧ (∃ k1, k1 < 20 - 6 ∧ I_bgx w F j pk pl me a d V cap [] 7 S k1 [(0, .inr (.inr (some w)))] [] (sR (sR S1 1009 w none) 1010 w none) 0 0)))))
      obtain ⟨p7, q7⟩ := h1.fr (i9 := 1009) (v := none) (by decide)
      obtain ⟨p8, q8⟩ := p7.fr (i9 := 1010) (v := none) (by decide)
      refine ⟨trivial, h1.2.2.2.2.1.1, trivial, p7.2.2.2.2.1.1, 20 - 7, by decide, rfl, rfl, rfl, p8, hk.tr (q7.tr q8), fun _ => ?_, rfl, rfl⟩
      rw [mR_sR, if_neg (fun z => absurd z.1 (by decide)), mR_sR, if_pos ⟨rfl, rfl⟩]
    · cases hm
      obtain ⟨rfl, rfl, rfl, h1, hk, e9, rfl, rfl⟩ := h
      refine ⟨300, ?_⟩
      show (True ∧ (isO S1 10 w ∧ (True ∧ (isO (sR S1 1013 w none) 10 w ∧ (([] : List MV) = [] ∧ mret none (sp_wbg w F j pk pl me a d V cap M) [.inr (.inr (some w))] S none (sI (sR S1 1013 w none) 1014 w (0 : Int32)) 0 0)))))
      obtain ⟨p9, q9⟩ := h1.fr (i9 := 1013) (v := none) (by decide)
      obtain ⟨p10, q10⟩ := p9.fi (i9 := 1014) (v := 0) (by decide)
      refine ⟨trivial, h1.2.2.2.2.1.1, trivial, p9.2.2.2.2.1.1, rfl, trivial, ⟨rfl, p10, hk.tr (q9.tr q10), ?_, ?_, ?_⟩, Nat.le_refl _, Nat.le_refl _⟩
      · rw [mR_sI, mR_sR, if_neg (fun z => absurd z.1 (by decide))]; exact e9 rfl
      · rw [mR_sI, mR_sR, if_pos ⟨rfl, rfl⟩]
      · rw [mI_sI, if_pos ⟨rfl, rfl⟩]
theorem u_wbg (l : Launch) : Us l yX9_begin cX9_begin 1 none 1 23 10 T_wbg := by
  intro Rc Rs av S cs sl K Kx h
  unfold T_wbg at h
  split at h
  · rename_i w_o
    obtain ⟨w, rfl, h_1⟩ := pa_of h
    obtain ⟨F, j, pk, pl, me, a, d, V, cap, M, hp, hc, hs, hk⟩ := h_1
    refine ⟨(sp_wbg w F j pk pl me a d V cap M), c_wbg l w F j pk pl me a d V cap M, fun _ _ h9 => ⟨_, _, h9.1, h9.2.2.2.2.2.1.1⟩, ⟨rfl, hp⟩, hc, hs, fun S' h8 => by
      obtain ⟨-, h8⟩ := h8
      exact hk _ h8, fun _ _ q => q.elim⟩
  · exact h.elim
