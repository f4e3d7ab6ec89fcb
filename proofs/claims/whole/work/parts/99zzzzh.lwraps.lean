/-! ===== The law's wrappers ===== -/
/-- the law's row of one long -/
def lwO (S : MM) (F : Nat → Nat × Nat) (o : Nat) : Prop := isO S 18 o ∧ mN S o = 1 ∧ ¬ cO (F o).1
def loJ (S : MM) (o : Nat) (x : Int64) : MM := rJ S o (vp_updL (eJ S o) 0 x)
theorem lwO.s {S : MM} {F : Nat → Nat × Nat} {o : Nat} (h : lwO S F o) : isO S 18 o ∧ inR S o 0 := ⟨h.1, inRn (i := 0) h.2.1 (by decide) (by decide)⟩
theorem lwO.k {S S' : MM} {F : Nat → Nat × Nat} {o : Nat} {P : Nat → Prop} (h : lwO S F o) (hk : Keep P S S') : isO S' 18 o ∧ inR S' o 0 := ⟨hk.isO h.1, inRn (i := 0) ((hk.1 _ h.1.1).2.2.trans h.2.1) (by decide) (by decide)⟩
theorem wtQ.o {S S' : MM} {F : Nat → Nat × Nat} {t : Nat} {X : Nat → GX} {kz : Nat → Nat} {Q : Ab} {o : Nat} (h : wtQ S S' F t X kz Q) (ho : lwO S F o) : isO S' 18 o ∧ inR S' o 0 := by
  obtain ⟨F', h1, h2, h3⟩ := h
  exact ho.k h3
def T_lwal : TR := fun Rc Rs av S cs sl K _Kx => match av with
  | [.inr (.inr t_o), .inl s, .inl x, .inl w, .inr (.inr o9_o)] => pa t_o fun t => (pa o9_o fun o9 => (∃ (F : Nat → Nat × Nat) (X : Nat → GX) (kz : Nat → Nat) (Q : Ab), ((WT S F t X kz Q) ∧ lwO S F o9) ∧ cs + 4 ≤ Rc ∧ sl + 24 ≤ Rs ∧ (∀ (v : Int32) (S' : MM), ((v = 0 ∧ ∃ (v0 : Int32) (S0 : MM), (∃ i j b, i < 8 ∧ s = nI i ∧ j < (Q.sl i).length ∧ x = nI j ∧ b < 256 ∧ w = nI b ∧ v0 = nI ((Q.sl i).getD j 0) ∧ wtQ S S0 F t X kz ((Q.sSl (upF Q.sl i ((Q.sl i).set j b))).sFo (if Q.fo = 1 ∨ (Q.sl i).getD j 0 ≠ b then 1 else 0))) ∧ S' = loJ S0 o9 v0.toInt64) ∨ (v = 1 ∧ S' = S ∧ (np 256 w ∨ np 8 s ∨ ∃ i, i < 8 ∧ s = nI i ∧ Q.sl i ≠ [] ∧ np (Q.sl i).length x)) ∨ (v = 2 ∧ S' = S ∧ (¬ np 256 w ∧ ∃ i, i < 8 ∧ s = nI i ∧ Q.sl i = []))) → K (some (.inl v)) S' (cs + 4) (sl + 24))))
  | _ => False
def sp_lwal (t : Nat) (s : Int32) (x : Int32) (w : Int32) (o9 : Nat) (F : Nat → Nat × Nat) (X : Nat → GX) (kz : Nat → Nat) (Q : Ab) : Sp := (fun av S => av = [.inr (.inr (some t)), .inl s, .inl x, .inl w, .inr (.inr (some o9))] ∧ ((WT S F t X kz Q) ∧ lwO S F o9), fun _ S => 4, fun _ S => 24, fun _ S rv S' => ∃ v, rv = (some (.inl v)) ∧ ((v = 0 ∧ ∃ (v0 : Int32) (S0 : MM), (∃ i j b, i < 8 ∧ s = nI i ∧ j < (Q.sl i).length ∧ x = nI j ∧ b < 256 ∧ w = nI b ∧ v0 = nI ((Q.sl i).getD j 0) ∧ wtQ S S0 F t X kz ((Q.sSl (upF Q.sl i ((Q.sl i).set j b))).sFo (if Q.fo = 1 ∨ (Q.sl i).getD j 0 ≠ b then 1 else 0))) ∧ S' = loJ S0 o9 v0.toInt64) ∨ (v = 1 ∧ S' = S ∧ (np 256 w ∨ np 8 s ∨ ∃ i, i < 8 ∧ s = nI i ∧ Q.sl i ≠ [] ∧ np (Q.sl i).length x)) ∨ (v = 2 ∧ S' = S ∧ (¬ np 256 w ∧ ∃ i, i < 8 ∧ s = nI i ∧ Q.sl i = []))), fun _ _ _ _ => False)
def tL_alter : CD := [(0, .aload 4), (2, .iconst 0), (3, .aload_n 0), (4, .iload_n 1), (5, .iload_n 2), (6, .iload_n 3), (7, .invokevirtual 102), (10, .i2l), (11, .lastore), (12, .goto 11), (15, .astore 5), (17, .iconst 1), (18, .ireturn), (19, .astore 5), (21, .iconst 2), (22, .ireturn), (23, .iconst 0), (24, .ireturn)]
set_option maxRecDepth 100000 in
theorem kL_alter : chk cL_alter tL_alter = true := by decide +kernel
theorem vL_alter_102 : ∀ w ∈ ([.methodLink RL 102 yX11_alter, .instanceMethod yX11_alter, .selects yX11_alter.cls yX11_alter yX11_alter, .initialized yX11_alter.cls, .code yX11_alter cX11_alter 6 (some .int)] : List Cond), w ∈ lw_good := List.forall_mem_cons.mpr ⟨mgd 1603 (by decide +kernel) (by decide +kernel), List.forall_mem_cons.mpr ⟨mgd 1604 (by decide +kernel) (by decide +kernel), List.forall_mem_cons.mpr ⟨mgd 1605 (by decide +kernel) (by decide +kernel), List.forall_mem_cons.mpr ⟨mgd 121 (by decide +kernel) (by decide +kernel), List.forall_mem_cons.mpr ⟨mgd 1606 (by decide +kernel) (by decide +kernel), fun _ h => absurd h List.not_mem_nil⟩⟩⟩⟩⟩
set_option maxRecDepth 100000 in
set_option maxHeartbeats 2000000 in
theorem c_lwal (l : Launch) (hlt : l.stackTraces = false) : ∀ (t : Nat) (s : Int32) (x : Int32) (w : Int32) (o9 : Nat) (F : Nat → Nat × Nat) (X : Nat → GX) (kz : Nat → Nat) (Q : Ab), CtX l yL_alter (Cond.codeWith yL_alter cL_alter 6 (some .int) [(0, 12, 15, 19), (0, 12, 19, 34)]) (some .int) 9 155 (sp_lwal t s x w o9 F X kz Q) := by
  intro t s x w o9 F X kz Q
  refine CtX.ofH hlt (fLw, nLw, aLw, iLw, lLw, [(102, 0, 4, 1, T_wal)], qLw, gLw, []) false tL_alter [((0, 12, 15, 19), 1), ((0, 12, 19, 34), 2)] (fun _ _ _ => none) (by decide) (by decide) kL_alter ⟨_, _, rfl⟩ fLw_ok nLw_ok aLw_ok iLw_ok lLw_ok (fun p e R s m args below meth c Q D cy z r A C hR1 hR2 => List.forall_mem_cons.mpr ⟨cOK_use (fun _ _ _ _ _ _ _ _ h => let ⟨sp, h1, h2, h3⟩ := u_wal l hlt _ _ _ _ _ _ _ _ h; ⟨sp, cOKx_V C h1 vL_alter_102 ⟨by decide, by decide, by decide +kernel⟩ ⟨by rw [hR1]; decide, by rw [hR2]; decide⟩ (k := 12) (T := TX11) (N := 15) rfl (by decide) h2, h3⟩), fun _ h => absurd h List.not_mem_nil⟩) qLw_ok gLw_ok rfl (List.forall_mem_cons.mpr ⟨⟨by decide, mgd 796 (by decide +kernel) (by decide +kernel)⟩, List.forall_mem_cons.mpr ⟨⟨by decide, mgd 1085 (by decide +kernel) (by decide +kernel)⟩, fun _ h => absurd h List.not_mem_nil⟩⟩) (fun _ _ _ _ z => z) ?_ ?_
  · rintro _ S ⟨rfl, hp⟩
    refine ⟨Nat.le_of_ble_eq_true rfl, 300, ?_⟩
    show (0 = 0 ∧ (∃ (F_1 : Nat → Nat × Nat) (X_2 : Nat → GX) (kz_3 : Nat → Nat) (Q_4 : Ab), (WT S F_1 t X_2 kz_3 Q_4) ∧ 0 + 4 ≤ 4 ∧ 0 + 24 ≤ 24 ∧ ((∀ (x_6 : Int32) (S_5 : MM), (∃ i j b, i < 8 ∧ s = nI i ∧ j < (Q_4.sl i).length ∧ x = nI j ∧ b < 256 ∧ w = nI b ∧ x_6 = nI ((Q_4.sl i).getD j 0) ∧ wtQ S S_5 F_1 t X_2 kz_3 ((Q_4.sSl (upF Q_4.sl i ((Q_4.sl i).set j b))).sFo (if Q_4.fo = 1 ∨ (Q_4.sl i).getD j 0 ≠ b then 1 else 0))) → (isO S_5 18 o9 ∧ inR S_5 o9 (0 : Int32) ∧ (([] : List MV) = [] ∧ mret (some .int) (sp_lwal t s x w o9 F X kz Q) [.inr (.inr (some t)), .inl s, .inl x, .inl w, .inr (.inr (some o9))] S (some (.inl (0 : Int32))) (rJ S_5 o9 (vp_updL (eJ S_5 o9) (0 : Int32).toNatClampNeg x_6.toInt64)) (0 + 4) (0 + 24)))) ∧ ((np 256 w ∨ np 8 s ∨ ∃ i, i < 8 ∧ s = nI i ∧ Q_4.sl i ≠ [] ∧ np (Q_4.sl i).length x) → (∀ e_8, (([] : List MV) = [] ∧ mret (some .int) (sp_lwal t s x w o9 F X kz Q) [.inr (.inr (some t)), .inl s, .inl x, .inl w, .inr (.inr (some o9))] S (some (.inl (1 : Int32))) S (0 + 4) (0 + 24)))) ∧ ((¬ np 256 w ∧ ∃ i, i < 8 ∧ s = nI i ∧ Q_4.sl i = []) → (∀ e_10, (([] : List MV) = [] ∧ mret (some .int) (sp_lwal t s x w o9 F X kz Q) [.inr (.inr (some t)), .inl s, .inl x, .inl w, .inr (.inr (some o9))] S (some (.inl (2 : Int32))) S (0 + 4) (0 + 24)))))))
    obtain ⟨hp, ho⟩ := hp
    exact ⟨rfl, F, X, kz, Q, hp, Nat.le_of_eq (Nat.zero_add _), Nat.le_of_eq (Nat.zero_add _), fun v9 S9 h => have w9 : isO S9 18 o9 ∧ inR S9 o9 0 := (by obtain ⟨_, _, _, _, _, _, _, _, _, _, gK⟩ := h; exact gK.o ho); ⟨w9.1, w9.2, rfl, trivial, ⟨_, rfl, Or.inl ⟨rfl, v9, S9, h, rfl⟩⟩, Nat.le_of_eq (Nat.zero_add _), Nat.le_of_eq (Nat.zero_add _)⟩, fun h e9 => ⟨rfl, trivial, ⟨_, rfl, Or.inr (Or.inl ⟨rfl, rfl, h⟩)⟩, Nat.le_of_eq (Nat.zero_add _), Nat.le_of_eq (Nat.zero_add _)⟩, fun h e9 => ⟨rfl, trivial, ⟨_, rfl, Or.inr (Or.inr (⟨rfl, rfl, h⟩))⟩, Nat.le_of_eq (Nat.zero_add _), Nat.le_of_eq (Nat.zero_add _)⟩⟩
  · exact fun _ _ _ _ _ h => by cases h
theorem u_lwal (l : Launch) (hlt : l.stackTraces = false) : UsX l yL_alter (Cond.codeWith yL_alter cL_alter 6 (some .int) [(0, 12, 15, 19), (0, 12, 19, 34)]) (some .int) 9 155 99 T_lwal := by
  intro Rc Rs av S cs sl K Kx h
  unfold T_lwal at h
  split at h
  · rename_i t_o s x w o9_o
    obtain ⟨t, rfl, h_1⟩ := pa_of h
    obtain ⟨o9, rfl, h_2⟩ := pa_of h_1
    obtain ⟨F, X, kz, Q, hp, hc, hs, hk⟩ := h_2
    refine ⟨(sp_lwal t s x w o9 F X kz Q), c_lwal l hlt t s x w o9 F X kz Q, fun _ _ _ => trivial, ⟨rfl, hp⟩, hc, hs, fun v9 S' h8 => by
      obtain ⟨v8, h7, h8⟩ := h8
      cases h7
      exact hk _ _ h8, fun _ _ q => q.elim⟩
  · exact h.elim
def T_lwan : TR := fun Rc Rs av S cs sl K _Kx => match av with
  | [.inr (.inr t_o), .inl a, .inl p, .inl x] => pa t_o fun t => (∃ (F : Nat → Nat × Nat) (X : Nat → GX) (kz : Nat → Nat) (Q : Ab), (WT S F t X kz Q) ∧ cs + 3 ≤ Rc ∧ sl + 18 ≤ Rs ∧ (∀ (v : Int32) (S' : MM), ((v = 0 ∧ (∃ i n j, i < 8 ∧ a = nI i ∧ n < 4 ∧ p = nI n ∧ x = nI j ∧ ((j = visN (Q.G n) (Q.T n) ∧ wtQ S S' F t X kz (Q.sAn (upF Q.ap i (some n)) (upF Q.an i none))) ∨ ∃ k, TxN (Q.G n) (Q.T n) j k ∧ wtQ S S' F t X kz (Q.sAn (upF Q.ap i (some n)) (upF Q.an i (some k)))))) ∨ (v = 1 ∧ S' = S ∧ (np 8 a ∨ np 4 p ∨ ∃ n, n < 4 ∧ p = nI n ∧ np (visN (Q.G n) (Q.T n) + 1) x))) → K (some (.inl v)) S' (cs + 3) (sl + 18)))
  | _ => False
def sp_lwan (t : Nat) (a : Int32) (p : Int32) (x : Int32) (F : Nat → Nat × Nat) (X : Nat → GX) (kz : Nat → Nat) (Q : Ab) : Sp := (fun av S => av = [.inr (.inr (some t)), .inl a, .inl p, .inl x] ∧ (WT S F t X kz Q), fun _ S => 3, fun _ S => 18, fun _ S rv S' => ∃ v, rv = (some (.inl v)) ∧ ((v = 0 ∧ (∃ i n j, i < 8 ∧ a = nI i ∧ n < 4 ∧ p = nI n ∧ x = nI j ∧ ((j = visN (Q.G n) (Q.T n) ∧ wtQ S S' F t X kz (Q.sAn (upF Q.ap i (some n)) (upF Q.an i none))) ∨ ∃ k, TxN (Q.G n) (Q.T n) j k ∧ wtQ S S' F t X kz (Q.sAn (upF Q.ap i (some n)) (upF Q.an i (some k)))))) ∨ (v = 1 ∧ S' = S ∧ (np 8 a ∨ np 4 p ∨ ∃ n, n < 4 ∧ p = nI n ∧ np (visN (Q.G n) (Q.T n) + 1) x))), fun _ _ _ _ => False)
def tL_anchor : CD := [(0, .aload_n 0), (1, .iload_n 1), (2, .iload_n 2), (3, .iload_n 3), (4, .invokevirtual 80), (7, .goto 7), (10, .astore 4), (12, .iconst 1), (13, .ireturn), (14, .iconst 0), (15, .ireturn)]
set_option maxRecDepth 100000 in
theorem kL_anchor : chk cL_anchor tL_anchor = true := by decide +kernel
theorem vL_anchor_80 : ∀ w ∈ ([.methodLink RL 80 yX11_anchor, .instanceMethod yX11_anchor, .selects yX11_anchor.cls yX11_anchor yX11_anchor, .initialized yX11_anchor.cls, .code yX11_anchor cX11_anchor 5 none] : List Cond), w ∈ lw_good := List.forall_mem_cons.mpr ⟨mgd 1305 (by decide +kernel) (by decide +kernel), List.forall_mem_cons.mpr ⟨mgd 1306 (by decide +kernel) (by decide +kernel), List.forall_mem_cons.mpr ⟨mgd 1307 (by decide +kernel) (by decide +kernel), List.forall_mem_cons.mpr ⟨mgd 121 (by decide +kernel) (by decide +kernel), List.forall_mem_cons.mpr ⟨mgd 1308 (by decide +kernel) (by decide +kernel), fun _ h => absurd h List.not_mem_nil⟩⟩⟩⟩⟩
set_option maxRecDepth 100000 in
set_option maxHeartbeats 2000000 in
theorem c_lwan (l : Launch) (hlt : l.stackTraces = false) : ∀ (t : Nat) (a : Int32) (p : Int32) (x : Int32) (F : Nat → Nat × Nat) (X : Nat → GX) (kz : Nat → Nat) (Q : Ab), CtX l yL_anchor (Cond.codeWith yL_anchor cL_anchor 5 (some .int) [(0, 7, 10, 19)]) (some .int) 9 175 (sp_lwan t a p x F X kz Q) := by
  intro t a p x F X kz Q
  refine CtX.ofH hlt (fLw, nLw, aLw, iLw, lLw, [(80, 0, 4, 0, T_wan)], qLw, gLw, []) false tL_anchor [((0, 7, 10, 19), 1)] (fun _ _ _ => none) (by decide) (by decide) kL_anchor ⟨_, _, rfl⟩ fLw_ok nLw_ok aLw_ok iLw_ok lLw_ok (fun p e R s m args below meth c Q D cy z r A C hR1 hR2 => List.forall_mem_cons.mpr ⟨cOK_use (fun _ _ _ _ _ _ _ _ h => let ⟨sp, h1, h2, h3⟩ := u_wan l hlt _ _ _ _ _ _ _ _ h; ⟨sp, cOKx_V C h1 vL_anchor_80 ⟨by decide, by decide, by decide +kernel⟩ ⟨by rw [hR1]; decide, by rw [hR2]; decide⟩ (k := 12) (T := TX11) (N := 15) rfl (by decide) h2, h3⟩), fun _ h => absurd h List.not_mem_nil⟩) qLw_ok gLw_ok rfl (List.forall_mem_cons.mpr ⟨⟨by decide, mgd 796 (by decide +kernel) (by decide +kernel)⟩, fun _ h => absurd h List.not_mem_nil⟩) (fun _ _ _ _ z => z) ?_ ?_
  · rintro _ S ⟨rfl, hp⟩
    refine ⟨Nat.le_of_ble_eq_true rfl, 300, ?_⟩
    show (0 = 0 ∧ (∃ (F_1 : Nat → Nat × Nat) (X_2 : Nat → GX) (kz_3 : Nat → Nat) (Q_4 : Ab), (WT S F_1 t X_2 kz_3 Q_4) ∧ 0 + 3 ≤ 3 ∧ 0 + 18 ≤ 18 ∧ ((∀ (S_5 : MM), (∃ i n j, i < 8 ∧ a = nI i ∧ n < 4 ∧ p = nI n ∧ x = nI j ∧ ((j = visN (Q_4.G n) (Q_4.T n) ∧ wtQ S S_5 F_1 t X_2 kz_3 (Q_4.sAn (upF Q_4.ap i (some n)) (upF Q_4.an i none))) ∨ ∃ k, TxN (Q_4.G n) (Q_4.T n) j k ∧ wtQ S S_5 F_1 t X_2 kz_3 (Q_4.sAn (upF Q_4.ap i (some n)) (upF Q_4.an i (some k))))) → (([] : List MV) = [] ∧ mret (some .int) (sp_lwan t a p x F X kz Q) [.inr (.inr (some t)), .inl a, .inl p, .inl x] S (some (.inl (0 : Int32))) S_5 (0 + 3) (0 + 18))) ∧ ((np 8 a ∨ np 4 p ∨ ∃ n, n < 4 ∧ p = nI n ∧ np (visN (Q_4.G n) (Q_4.T n) + 1) x) → (∀ e_7, (([] : List MV) = [] ∧ mret (some .int) (sp_lwan t a p x F X kz Q) [.inr (.inr (some t)), .inl a, .inl p, .inl x] S (some (.inl (1 : Int32))) S (0 + 3) (0 + 18)))))))
    exact ⟨rfl, F, X, kz, Q, hp, Nat.le_of_eq (Nat.zero_add _), Nat.le_of_eq (Nat.zero_add _), fun S9 h => ⟨rfl, trivial, ⟨_, rfl, Or.inl ⟨rfl, h⟩⟩, Nat.le_of_eq (Nat.zero_add _), Nat.le_of_eq (Nat.zero_add _)⟩, fun h e9 => ⟨rfl, trivial, ⟨_, rfl, Or.inr (⟨rfl, rfl, h⟩)⟩, Nat.le_of_eq (Nat.zero_add _), Nat.le_of_eq (Nat.zero_add _)⟩⟩
  · exact fun _ _ _ _ _ h => by cases h
theorem u_lwan (l : Launch) (hlt : l.stackTraces = false) : UsX l yL_anchor (Cond.codeWith yL_anchor cL_anchor 5 (some .int) [(0, 7, 10, 19)]) (some .int) 9 175 99 T_lwan := by
  intro Rc Rs av S cs sl K Kx h
  unfold T_lwan at h
  split at h
  · rename_i t_o a p x
    obtain ⟨t, rfl, h_1⟩ := pa_of h
    obtain ⟨F, X, kz, Q, hp, hc, hs, hk⟩ := h_1
    refine ⟨(sp_lwan t a p x F X kz Q), c_lwan l hlt t a p x F X kz Q, fun _ _ _ => trivial, ⟨rfl, hp⟩, hc, hs, fun v9 S' h8 => by
      obtain ⟨v8, h7, h8⟩ := h8
      cases h7
      exact hk _ _ h8, fun _ _ q => q.elim⟩
  · exact h.elim
def T_lwac : TR := fun Rc Rs av S cs sl K _Kx => match av with
  | [.inr (.inr t_o), .inl p, .inl s, .inr (.inr o9_o)] => pa t_o fun t => (pa o9_o fun o9 => (∃ (F : Nat → Nat × Nat) (X : Nat → GX) (kz : Nat → Nat) (Q : Ab), ((WT S F t X kz Q) ∧ lwO S F o9) ∧ cs + (anC kz Q p s + 2) ≤ Rc ∧ sl + (anZ kz Q p s + 12) ≤ Rs ∧ (∀ (v : Int32) (S' : MM), ((v = 0 ∧ ∃ (v0 : Int32) (S0 : MM), (∃ n i, n < 4 ∧ p = nI n ∧ i < 8 ∧ s = nI i ∧ v0 = nI (bPuts [] (sumA (Q.G n) n)).length ∧ wtQ S S0 F t X (upF kz (20 + i) (capN (sumA (Q.G n) n).length (kz (20 + i)) 0)) (Q.sSl (upF Q.sl i (bPuts [] (sumA (Q.G n) n))))) ∧ S' = loJ S0 o9 v0.toInt64) ∨ (v = 1 ∧ S' = S ∧ (np 4 p ∨ np 8 s))) → K (some (.inl v)) S' (cs + (anC kz Q p s + 2)) (sl + (anZ kz Q p s + 12)))))
  | _ => False
def sp_lwac (t : Nat) (p : Int32) (s : Int32) (o9 : Nat) (F : Nat → Nat × Nat) (X : Nat → GX) (kz : Nat → Nat) (Q : Ab) : Sp := (fun av S => av = [.inr (.inr (some t)), .inl p, .inl s, .inr (.inr (some o9))] ∧ ((WT S F t X kz Q) ∧ lwO S F o9), fun _ S => anC kz Q p s + 2, fun _ S => anZ kz Q p s + 12, fun _ S rv S' => ∃ v, rv = (some (.inl v)) ∧ ((v = 0 ∧ ∃ (v0 : Int32) (S0 : MM), (∃ n i, n < 4 ∧ p = nI n ∧ i < 8 ∧ s = nI i ∧ v0 = nI (bPuts [] (sumA (Q.G n) n)).length ∧ wtQ S S0 F t X (upF kz (20 + i) (capN (sumA (Q.G n) n).length (kz (20 + i)) 0)) (Q.sSl (upF Q.sl i (bPuts [] (sumA (Q.G n) n))))) ∧ S' = loJ S0 o9 v0.toInt64) ∨ (v = 1 ∧ S' = S ∧ (np 4 p ∨ np 8 s))), fun _ _ _ _ => False)
def tL_announce : CD := [(0, .aload_n 3), (1, .iconst 0), (2, .aload_n 0), (3, .iload_n 1), (4, .iload_n 2), (5, .invokevirtual 87), (8, .i2l), (9, .lastore), (10, .goto 7), (13, .astore 4), (15, .iconst 1), (16, .ireturn), (17, .iconst 0), (18, .ireturn)]
set_option maxRecDepth 100000 in
theorem kL_announce : chk cL_announce tL_announce = true := by decide +kernel
theorem vL_announce_87 : ∀ w ∈ ([.methodLink RL 87 yX11_announce, .instanceMethod yX11_announce, .selects yX11_announce.cls yX11_announce yX11_announce, .initialized yX11_announce.cls, .code yX11_announce cX11_announce 5 (some .int)] : List Cond), w ∈ lw_good := List.forall_mem_cons.mpr ⟨mgd 1323 (by decide +kernel) (by decide +kernel), List.forall_mem_cons.mpr ⟨mgd 1324 (by decide +kernel) (by decide +kernel), List.forall_mem_cons.mpr ⟨mgd 1325 (by decide +kernel) (by decide +kernel), List.forall_mem_cons.mpr ⟨mgd 121 (by decide +kernel) (by decide +kernel), List.forall_mem_cons.mpr ⟨mgd 1326 (by decide +kernel) (by decide +kernel), fun _ h => absurd h List.not_mem_nil⟩⟩⟩⟩⟩
set_option maxRecDepth 100000 in
set_option maxHeartbeats 2000000 in
theorem c_lwac (l : Launch) (hlt : l.stackTraces = false) : ∀ (t : Nat) (p : Int32) (s : Int32) (o9 : Nat) (F : Nat → Nat × Nat) (X : Nat → GX) (kz : Nat → Nat) (Q : Ab), CtX l yL_announce (Cond.codeWith yL_announce cL_announce 5 (some .int) [(0, 10, 13, 19)]) (some .int) 9 154 (sp_lwac t p s o9 F X kz Q) := by
  intro t p s o9 F X kz Q
  refine CtX.ofH hlt (fLw, nLw, aLw, iLw, lLw, [(87, 0, 3, 1, T_wac)], qLw, gLw, []) false tL_announce [((0, 10, 13, 19), 1)] (fun _ _ _ => none) (by decide) (by decide) kL_announce ⟨_, _, rfl⟩ fLw_ok nLw_ok aLw_ok iLw_ok lLw_ok (fun p e R s m args below meth c Q D cy z r A C hR1 hR2 => List.forall_mem_cons.mpr ⟨cOK_use (fun _ _ _ _ _ _ _ _ h => let ⟨sp, h1, h2, h3⟩ := u_wac l hlt _ _ _ _ _ _ _ _ h; ⟨sp, cOKx_V C h1 vL_announce_87 ⟨by decide, by decide, by decide +kernel⟩ ⟨by rw [hR1]; decide, by rw [hR2]; decide⟩ (k := 12) (T := TX11) (N := 15) rfl (by decide) h2, h3⟩), fun _ h => absurd h List.not_mem_nil⟩) qLw_ok gLw_ok rfl (List.forall_mem_cons.mpr ⟨⟨by decide, mgd 796 (by decide +kernel) (by decide +kernel)⟩, fun _ h => absurd h List.not_mem_nil⟩) (fun _ _ _ _ z => z) ?_ ?_
  · rintro _ S ⟨rfl, hp⟩
    refine ⟨Nat.le_of_ble_eq_true rfl, 300, ?_⟩
    show (0 = 0 ∧ (∃ (F_1 : Nat → Nat × Nat) (X_2 : Nat → GX) (kz_3 : Nat → Nat) (Q_4 : Ab), (WT S F_1 t X_2 kz_3 Q_4) ∧ 0 + (anC kz_3 Q_4 p s + 2) ≤ anC kz Q p s + 2 ∧ 0 + (anZ kz_3 Q_4 p s + 12) ≤ anZ kz Q p s + 12 ∧ ((∀ (x_6 : Int32) (S_5 : MM), (∃ n i, n < 4 ∧ p = nI n ∧ i < 8 ∧ s = nI i ∧ x_6 = nI (bPuts [] (sumA (Q_4.G n) n)).length ∧ wtQ S S_5 F_1 t X_2 (upF kz_3 (20 + i) (capN (sumA (Q_4.G n) n).length (kz_3 (20 + i)) 0)) (Q_4.sSl (upF Q_4.sl i (bPuts [] (sumA (Q_4.G n) n))))) → (isO S_5 18 o9 ∧ inR S_5 o9 (0 : Int32) ∧ (([] : List MV) = [] ∧ mret (some .int) (sp_lwac t p s o9 F X kz Q) [.inr (.inr (some t)), .inl p, .inl s, .inr (.inr (some o9))] S (some (.inl (0 : Int32))) (rJ S_5 o9 (vp_updL (eJ S_5 o9) (0 : Int32).toNatClampNeg x_6.toInt64)) (0 + (anC kz_3 Q_4 p s + 2)) (0 + (anZ kz_3 Q_4 p s + 12))))) ∧ ((np 4 p ∨ np 8 s) → (∀ e_8, (([] : List MV) = [] ∧ mret (some .int) (sp_lwac t p s o9 F X kz Q) [.inr (.inr (some t)), .inl p, .inl s, .inr (.inr (some o9))] S (some (.inl (1 : Int32))) S (0 + (anC kz_3 Q_4 p s + 2)) (0 + (anZ kz_3 Q_4 p s + 12))))))))
    obtain ⟨hp, ho⟩ := hp
    exact ⟨rfl, F, X, kz, Q, hp, Nat.le_of_eq (Nat.zero_add _), Nat.le_of_eq (Nat.zero_add _), fun v9 S9 h => have w9 : isO S9 18 o9 ∧ inR S9 o9 0 := (by obtain ⟨_, _, _, _, _, _, _, gK⟩ := h; exact gK.o ho); ⟨w9.1, w9.2, rfl, trivial, ⟨_, rfl, Or.inl ⟨rfl, v9, S9, h, rfl⟩⟩, Nat.le_of_eq (Nat.zero_add _), Nat.le_of_eq (Nat.zero_add _)⟩, fun h e9 => ⟨rfl, trivial, ⟨_, rfl, Or.inr (⟨rfl, rfl, h⟩)⟩, Nat.le_of_eq (Nat.zero_add _), Nat.le_of_eq (Nat.zero_add _)⟩⟩
  · exact fun _ _ _ _ _ h => by cases h
theorem u_lwac (l : Launch) (hlt : l.stackTraces = false) : UsX l yL_announce (Cond.codeWith yL_announce cL_announce 5 (some .int) [(0, 10, 13, 19)]) (some .int) 9 154 99 T_lwac := by
  intro Rc Rs av S cs sl K Kx h
  unfold T_lwac at h
  split at h
  · rename_i t_o p s o9_o
    obtain ⟨t, rfl, h_1⟩ := pa_of h
    obtain ⟨o9, rfl, h_2⟩ := pa_of h_1
    obtain ⟨F, X, kz, Q, hp, hc, hs, hk⟩ := h_2
    refine ⟨(sp_lwac t p s o9 F X kz Q), c_lwac l hlt t p s o9 F X kz Q, fun _ _ _ => trivial, ⟨rfl, hp⟩, hc, hs, fun v9 S' h8 => by
      obtain ⟨v8, h7, h8⟩ := h8
      cases h7
      exact hk _ _ h8, fun _ _ q => q.elim⟩
  · exact h.elim
def T_lwat : TR := fun Rc Rs av S cs sl K _Kx => match av with
  | [.inr (.inr t_o), .inl p, .inl x, .inr (.inr o9_o)] => pa t_o fun t => (pa o9_o fun o9 => (∃ (F : Nat → Nat × Nat) (X : Nat → GX) (kz : Nat → Nat) (Q : Ab), ((WT S F t X kz Q) ∧ lwO S F o9) ∧ cs + 2 ≤ Rc ∧ sl + 12 ≤ Rs ∧ (∀ (v : Int32) (S' : MM), ((v = 0 ∧ ∃ (v0 : Int32) (S0 : MM), (∃ n j k, n < 4 ∧ p = nI n ∧ x = nI j ∧ TxN (Q.G n) (Q.T n) j k ∧ v0 = chI ((Q.G n).ev k).ch ∧ wtQ S S0 F t X kz Q) ∧ S' = loJ S0 o9 v0.toInt64) ∨ (v = 1 ∧ S' = S ∧ (npx Q p x))) → K (some (.inl v)) S' (cs + 2) (sl + 12))))
  | _ => False
def sp_lwat (t : Nat) (p : Int32) (x : Int32) (o9 : Nat) (F : Nat → Nat × Nat) (X : Nat → GX) (kz : Nat → Nat) (Q : Ab) : Sp := (fun av S => av = [.inr (.inr (some t)), .inl p, .inl x, .inr (.inr (some o9))] ∧ ((WT S F t X kz Q) ∧ lwO S F o9), fun _ S => 2, fun _ S => 12, fun _ S rv S' => ∃ v, rv = (some (.inl v)) ∧ ((v = 0 ∧ ∃ (v0 : Int32) (S0 : MM), (∃ n j k, n < 4 ∧ p = nI n ∧ x = nI j ∧ TxN (Q.G n) (Q.T n) j k ∧ v0 = chI ((Q.G n).ev k).ch ∧ wtQ S S0 F t X kz Q) ∧ S' = loJ S0 o9 v0.toInt64) ∨ (v = 1 ∧ S' = S ∧ (npx Q p x))), fun _ _ _ _ => False)
def tL_at : CD := [(0, .aload_n 3), (1, .iconst 0), (2, .aload_n 0), (3, .iload_n 1), (4, .iload_n 2), (5, .invokevirtual 39), (8, .i2l), (9, .lastore), (10, .goto 7), (13, .astore 4), (15, .iconst 1), (16, .ireturn), (17, .iconst 0), (18, .ireturn)]
set_option maxRecDepth 100000 in
theorem kL_at : chk cL_at tL_at = true := by decide +kernel
theorem vL_at_39 : ∀ w ∈ ([.methodLink RL 39 yX11_at, .instanceMethod yX11_at, .selects yX11_at.cls yX11_at yX11_at, .initialized yX11_at.cls, .code yX11_at cX11_at 3 (some .int)] : List Cond), w ∈ lw_good := List.forall_mem_cons.mpr ⟨mgd 1146 (by decide +kernel) (by decide +kernel), List.forall_mem_cons.mpr ⟨mgd 1147 (by decide +kernel) (by decide +kernel), List.forall_mem_cons.mpr ⟨mgd 1148 (by decide +kernel) (by decide +kernel), List.forall_mem_cons.mpr ⟨mgd 121 (by decide +kernel) (by decide +kernel), List.forall_mem_cons.mpr ⟨mgd 1149 (by decide +kernel) (by decide +kernel), fun _ h => absurd h List.not_mem_nil⟩⟩⟩⟩⟩
set_option maxRecDepth 100000 in
set_option maxHeartbeats 2000000 in
theorem c_lwat (l : Launch) (hlt : l.stackTraces = false) : ∀ (t : Nat) (p : Int32) (x : Int32) (o9 : Nat) (F : Nat → Nat × Nat) (X : Nat → GX) (kz : Nat → Nat) (Q : Ab), CtX l yL_at (Cond.codeWith yL_at cL_at 5 (some .int) [(0, 10, 13, 19)]) (some .int) 10 196 (sp_lwat t p x o9 F X kz Q) := by
  intro t p x o9 F X kz Q
  refine CtX.ofH hlt (fLw, nLw, aLw, iLw, lLw, [(39, 0, 3, 1, T_wat)], qLw, gLw, []) false tL_at [((0, 10, 13, 19), 1)] (fun _ _ _ => none) (by decide) (by decide) kL_at ⟨_, _, rfl⟩ fLw_ok nLw_ok aLw_ok iLw_ok lLw_ok (fun p e R s m args below meth c Q D cy z r A C hR1 hR2 => List.forall_mem_cons.mpr ⟨cOK_use (fun _ _ _ _ _ _ _ _ h => let ⟨sp, h1, h2, h3⟩ := u_wat l hlt _ _ _ _ _ _ _ _ h; ⟨sp, cOKx_V C h1 vL_at_39 ⟨by decide, by decide, by decide +kernel⟩ ⟨by rw [hR1]; decide, by rw [hR2]; decide⟩ (k := 12) (T := TX11) (N := 15) rfl (by decide) h2, h3⟩), fun _ h => absurd h List.not_mem_nil⟩) qLw_ok gLw_ok rfl (List.forall_mem_cons.mpr ⟨⟨by decide, mgd 796 (by decide +kernel) (by decide +kernel)⟩, fun _ h => absurd h List.not_mem_nil⟩) (fun _ _ _ _ z => z) ?_ ?_
  · rintro _ S ⟨rfl, hp⟩
    refine ⟨Nat.le_of_ble_eq_true rfl, 300, ?_⟩
    show (0 = 0 ∧ (∃ (F_1 : Nat → Nat × Nat) (X_2 : Nat → GX) (kz_3 : Nat → Nat) (Q_4 : Ab), (WT S F_1 t X_2 kz_3 Q_4) ∧ 0 + 2 ≤ 2 ∧ 0 + 12 ≤ 12 ∧ ((∀ (x_6 : Int32) (S_5 : MM), (∃ n j k, n < 4 ∧ p = nI n ∧ x = nI j ∧ TxN (Q_4.G n) (Q_4.T n) j k ∧ x_6 = chI ((Q_4.G n).ev k).ch ∧ wtQ S S_5 F_1 t X_2 kz_3 Q_4) → (isO S_5 18 o9 ∧ inR S_5 o9 (0 : Int32) ∧ (([] : List MV) = [] ∧ mret (some .int) (sp_lwat t p x o9 F X kz Q) [.inr (.inr (some t)), .inl p, .inl x, .inr (.inr (some o9))] S (some (.inl (0 : Int32))) (rJ S_5 o9 (vp_updL (eJ S_5 o9) (0 : Int32).toNatClampNeg x_6.toInt64)) (0 + 2) (0 + 12)))) ∧ ((npx Q_4 p x) → (∀ e_8, (([] : List MV) = [] ∧ mret (some .int) (sp_lwat t p x o9 F X kz Q) [.inr (.inr (some t)), .inl p, .inl x, .inr (.inr (some o9))] S (some (.inl (1 : Int32))) S (0 + 2) (0 + 12)))))))
    obtain ⟨hp, ho⟩ := hp
    exact ⟨rfl, F, X, kz, Q, hp, Nat.le_of_eq (Nat.zero_add _), Nat.le_of_eq (Nat.zero_add _), fun v9 S9 h => have w9 : isO S9 18 o9 ∧ inR S9 o9 0 := (by obtain ⟨_, _, _, _, _, _, _, _, gK⟩ := h; exact gK.o ho); ⟨w9.1, w9.2, rfl, trivial, ⟨_, rfl, Or.inl ⟨rfl, v9, S9, h, rfl⟩⟩, Nat.le_of_eq (Nat.zero_add _), Nat.le_of_eq (Nat.zero_add _)⟩, fun h e9 => ⟨rfl, trivial, ⟨_, rfl, Or.inr (⟨rfl, rfl, h⟩)⟩, Nat.le_of_eq (Nat.zero_add _), Nat.le_of_eq (Nat.zero_add _)⟩⟩
  · exact fun _ _ _ _ _ h => by cases h
theorem u_lwat (l : Launch) (hlt : l.stackTraces = false) : UsX l yL_at (Cond.codeWith yL_at cL_at 5 (some .int) [(0, 10, 13, 19)]) (some .int) 10 196 99 T_lwat := by
  intro Rc Rs av S cs sl K Kx h
  unfold T_lwat at h
  split at h
  · rename_i t_o p x o9_o
    obtain ⟨t, rfl, h_1⟩ := pa_of h
    obtain ⟨o9, rfl, h_2⟩ := pa_of h_1
    obtain ⟨F, X, kz, Q, hp, hc, hs, hk⟩ := h_2
    refine ⟨(sp_lwat t p x o9 F X kz Q), c_lwat l hlt t p x o9 F X kz Q, fun _ _ _ => trivial, ⟨rfl, hp⟩, hc, hs, fun v9 S' h8 => by
      obtain ⟨v8, h7, h8⟩ := h8
      cases h7
      exact hk _ _ h8, fun _ _ q => q.elim⟩
  · exact h.elim
def T_lwbl : TR := fun Rc Rs av S cs sl K _Kx => match av with
  | [.inr (.inr t_o), .inl p, .inl x, .inr (.inr o9_o)] => pa t_o fun t => (pa o9_o fun o9 => (∃ (F : Nat → Nat × Nat) (X : Nat → GX) (kz : Nat → Nat) (Q : Ab), ((WT S F t X kz Q) ∧ lwO S F o9) ∧ cs + 2 ≤ Rc ∧ sl + 12 ≤ Rs ∧ (∀ (v : Int32) (S' : MM), ((v = 0 ∧ ∃ (v0 : Int64) (S0 : MM), (∃ n j k, n < 4 ∧ p = nI n ∧ x = nI j ∧ TxN (Q.G n) (Q.T n) j k ∧ v0 = lN ((Q.G n).key k) ∧ wtQ S S0 F t X kz Q) ∧ S' = loJ S0 o9 v0) ∨ (v = 1 ∧ S' = S ∧ (npx Q p x))) → K (some (.inl v)) S' (cs + 2) (sl + 12))))
  | _ => False
def sp_lwbl (t : Nat) (p : Int32) (x : Int32) (o9 : Nat) (F : Nat → Nat × Nat) (X : Nat → GX) (kz : Nat → Nat) (Q : Ab) : Sp := (fun av S => av = [.inr (.inr (some t)), .inl p, .inl x, .inr (.inr (some o9))] ∧ ((WT S F t X kz Q) ∧ lwO S F o9), fun _ S => 2, fun _ S => 12, fun _ S rv S' => ∃ v, rv = (some (.inl v)) ∧ ((v = 0 ∧ ∃ (v0 : Int64) (S0 : MM), (∃ n j k, n < 4 ∧ p = nI n ∧ x = nI j ∧ TxN (Q.G n) (Q.T n) j k ∧ v0 = lN ((Q.G n).key k) ∧ wtQ S S0 F t X kz Q) ∧ S' = loJ S0 o9 v0) ∨ (v = 1 ∧ S' = S ∧ (npx Q p x))), fun _ _ _ _ => False)
def tL_blame : CD := [(0, .aload_n 3), (1, .iconst 0), (2, .aload_n 0), (3, .iload_n 1), (4, .iload_n 2), (5, .invokevirtual 48), (8, .lastore), (9, .goto 7), (12, .astore 4), (14, .iconst 1), (15, .ireturn), (16, .iconst 0), (17, .ireturn)]
set_option maxRecDepth 100000 in
theorem kL_blame : chk cL_blame tL_blame = true := by decide +kernel
theorem vL_blame_48 : ∀ w ∈ ([.methodLink RL 48 yX11_blame, .instanceMethod yX11_blame, .selects yX11_blame.cls yX11_blame yX11_blame, .initialized yX11_blame.cls, .code yX11_blame cX11_blame 3 (some .long)] : List Cond), w ∈ lw_good := List.forall_mem_cons.mpr ⟨mgd 1193 (by decide +kernel) (by decide +kernel), List.forall_mem_cons.mpr ⟨mgd 1194 (by decide +kernel) (by decide +kernel), List.forall_mem_cons.mpr ⟨mgd 1195 (by decide +kernel) (by decide +kernel), List.forall_mem_cons.mpr ⟨mgd 121 (by decide +kernel) (by decide +kernel), List.forall_mem_cons.mpr ⟨mgd 1196 (by decide +kernel) (by decide +kernel), fun _ h => absurd h List.not_mem_nil⟩⟩⟩⟩⟩
set_option maxRecDepth 100000 in
set_option maxHeartbeats 2000000 in
theorem c_lwbl (l : Launch) (hlt : l.stackTraces = false) : ∀ (t : Nat) (p : Int32) (x : Int32) (o9 : Nat) (F : Nat → Nat × Nat) (X : Nat → GX) (kz : Nat → Nat) (Q : Ab), CtX l yL_blame (Cond.codeWith yL_blame cL_blame 5 (some .int) [(0, 9, 12, 19)]) (some .int) 10 196 (sp_lwbl t p x o9 F X kz Q) := by
  intro t p x o9 F X kz Q
  refine CtX.ofH hlt (fLw, nLw, aLw, iLw, lLw, [(48, 0, 3, 2, T_wbl)], qLw, gLw, []) false tL_blame [((0, 9, 12, 19), 1)] (fun _ _ _ => none) (by decide) (by decide) kL_blame ⟨_, _, rfl⟩ fLw_ok nLw_ok aLw_ok iLw_ok lLw_ok (fun p e R s m args below meth c Q D cy z r A C hR1 hR2 => List.forall_mem_cons.mpr ⟨cOK_use (fun _ _ _ _ _ _ _ _ h => let ⟨sp, h1, h2, h3⟩ := u_wbl l hlt _ _ _ _ _ _ _ _ h; ⟨sp, cOKx_V C h1 vL_blame_48 ⟨by decide, by decide, by decide +kernel⟩ ⟨by rw [hR1]; decide, by rw [hR2]; decide⟩ (k := 12) (T := TX11) (N := 15) rfl (by decide) h2, h3⟩), fun _ h => absurd h List.not_mem_nil⟩) qLw_ok gLw_ok rfl (List.forall_mem_cons.mpr ⟨⟨by decide, mgd 796 (by decide +kernel) (by decide +kernel)⟩, fun _ h => absurd h List.not_mem_nil⟩) (fun _ _ _ _ z => z) ?_ ?_
  · rintro _ S ⟨rfl, hp⟩
    refine ⟨Nat.le_of_ble_eq_true rfl, 300, ?_⟩
    show (0 = 0 ∧ (∃ (F_1 : Nat → Nat × Nat) (X_2 : Nat → GX) (kz_3 : Nat → Nat) (Q_4 : Ab), (WT S F_1 t X_2 kz_3 Q_4) ∧ 0 + 2 ≤ 2 ∧ 0 + 12 ≤ 12 ∧ ((∀ (x_6 : Int64) (S_5 : MM), (∃ n j k, n < 4 ∧ p = nI n ∧ x = nI j ∧ TxN (Q_4.G n) (Q_4.T n) j k ∧ x_6 = lN ((Q_4.G n).key k) ∧ wtQ S S_5 F_1 t X_2 kz_3 Q_4) → (isO S_5 18 o9 ∧ inR S_5 o9 (0 : Int32) ∧ (([] : List MV) = [] ∧ mret (some .int) (sp_lwbl t p x o9 F X kz Q) [.inr (.inr (some t)), .inl p, .inl x, .inr (.inr (some o9))] S (some (.inl (0 : Int32))) (rJ S_5 o9 (vp_updL (eJ S_5 o9) (0 : Int32).toNatClampNeg x_6)) (0 + 2) (0 + 12)))) ∧ ((npx Q_4 p x) → (∀ e_8, (([] : List MV) = [] ∧ mret (some .int) (sp_lwbl t p x o9 F X kz Q) [.inr (.inr (some t)), .inl p, .inl x, .inr (.inr (some o9))] S (some (.inl (1 : Int32))) S (0 + 2) (0 + 12)))))))
    obtain ⟨hp, ho⟩ := hp
    exact ⟨rfl, F, X, kz, Q, hp, Nat.le_of_eq (Nat.zero_add _), Nat.le_of_eq (Nat.zero_add _), fun v9 S9 h => have w9 : isO S9 18 o9 ∧ inR S9 o9 0 := (by obtain ⟨_, _, _, _, _, _, _, _, gK⟩ := h; exact gK.o ho); ⟨w9.1, w9.2, rfl, trivial, ⟨_, rfl, Or.inl ⟨rfl, v9, S9, h, rfl⟩⟩, Nat.le_of_eq (Nat.zero_add _), Nat.le_of_eq (Nat.zero_add _)⟩, fun h e9 => ⟨rfl, trivial, ⟨_, rfl, Or.inr (⟨rfl, rfl, h⟩)⟩, Nat.le_of_eq (Nat.zero_add _), Nat.le_of_eq (Nat.zero_add _)⟩⟩
  · exact fun _ _ _ _ _ h => by cases h
theorem u_lwbl (l : Launch) (hlt : l.stackTraces = false) : UsX l yL_blame (Cond.codeWith yL_blame cL_blame 5 (some .int) [(0, 9, 12, 19)]) (some .int) 10 196 99 T_lwbl := by
  intro Rc Rs av S cs sl K Kx h
  unfold T_lwbl at h
  split at h
  · rename_i t_o p x o9_o
    obtain ⟨t, rfl, h_1⟩ := pa_of h
    obtain ⟨o9, rfl, h_2⟩ := pa_of h_1
    obtain ⟨F, X, kz, Q, hp, hc, hs, hk⟩ := h_2
    refine ⟨(sp_lwbl t p x o9 F X kz Q), c_lwbl l hlt t p x o9 F X kz Q, fun _ _ _ => trivial, ⟨rfl, hp⟩, hc, hs, fun v9 S' h8 => by
      obtain ⟨v8, h7, h8⟩ := h8
      cases h7
      exact hk _ _ h8, fun _ _ q => q.elim⟩
  · exact h.elim
def T_lwcr : TR := fun Rc Rs av S cs sl K _Kx => match av with
  | [.inr (.inr t_o), .inl p, .inr (.inr o9_o)] => pa t_o fun t => (pa o9_o fun o9 => (∃ (F : Nat → Nat × Nat) (X : Nat → GX) (kz : Nat → Nat) (Q : Ab), ((WT S F t X kz Q) ∧ lwO S F o9) ∧ cs + 1 ≤ Rc ∧ sl + 6 ≤ Rs ∧ (∀ (v : Int32) (S' : MM), ((v = 0 ∧ ∃ (v0 : Int32) (S0 : MM), (∃ n, n < 4 ∧ p = nI n ∧ v0 = nI (crN (Q.G n) (Q.G n).n) ∧ wtQ S S0 F t X kz Q) ∧ S' = loJ S0 o9 v0.toInt64) ∨ (v = 1 ∧ S' = S ∧ (np 4 p))) → K (some (.inl v)) S' (cs + 1) (sl + 6))))
  | _ => False
def sp_lwcr (t : Nat) (p : Int32) (o9 : Nat) (F : Nat → Nat × Nat) (X : Nat → GX) (kz : Nat → Nat) (Q : Ab) : Sp := (fun av S => av = [.inr (.inr (some t)), .inl p, .inr (.inr (some o9))] ∧ ((WT S F t X kz Q) ∧ lwO S F o9), fun _ S => 1, fun _ S => 6, fun _ S rv S' => ∃ v, rv = (some (.inl v)) ∧ ((v = 0 ∧ ∃ (v0 : Int32) (S0 : MM), (∃ n, n < 4 ∧ p = nI n ∧ v0 = nI (crN (Q.G n) (Q.G n).n) ∧ wtQ S S0 F t X kz Q) ∧ S' = loJ S0 o9 v0.toInt64) ∨ (v = 1 ∧ S' = S ∧ (np 4 p))), fun _ _ _ _ => False)
def tL_critical : CD := [(0, .aload_n 2), (1, .iconst 0), (2, .aload_n 0), (3, .iload_n 1), (4, .invokevirtual 62), (7, .i2l), (8, .lastore), (9, .goto 6), (12, .astore_n 3), (13, .iconst 1), (14, .ireturn), (15, .iconst 0), (16, .ireturn)]
set_option maxRecDepth 100000 in
theorem kL_critical : chk cL_critical tL_critical = true := by decide +kernel
theorem vL_critical_62 : ∀ w ∈ ([.methodLink RL 62 yX11_critical, .instanceMethod yX11_critical, .selects yX11_critical.cls yX11_critical yX11_critical, .initialized yX11_critical.cls, .code yX11_critical cX11_critical 2 (some .int)] : List Cond), w ∈ lw_good := List.forall_mem_cons.mpr ⟨mgd 1231 (by decide +kernel) (by decide +kernel), List.forall_mem_cons.mpr ⟨mgd 1232 (by decide +kernel) (by decide +kernel), List.forall_mem_cons.mpr ⟨mgd 1233 (by decide +kernel) (by decide +kernel), List.forall_mem_cons.mpr ⟨mgd 121 (by decide +kernel) (by decide +kernel), List.forall_mem_cons.mpr ⟨mgd 1234 (by decide +kernel) (by decide +kernel), fun _ h => absurd h List.not_mem_nil⟩⟩⟩⟩⟩
set_option maxRecDepth 100000 in
set_option maxHeartbeats 2000000 in
theorem c_lwcr (l : Launch) (hlt : l.stackTraces = false) : ∀ (t : Nat) (p : Int32) (o9 : Nat) (F : Nat → Nat × Nat) (X : Nat → GX) (kz : Nat → Nat) (Q : Ab), CtX l yL_critical (Cond.codeWith yL_critical cL_critical 4 (some .int) [(0, 9, 12, 19)]) (some .int) 9 151 (sp_lwcr t p o9 F X kz Q) := by
  intro t p o9 F X kz Q
  refine CtX.ofH hlt (fLw, nLw, aLw, iLw, lLw, [(62, 0, 2, 1, T_wcr)], qLw, gLw, []) false tL_critical [((0, 9, 12, 19), 1)] (fun _ _ _ => none) (by decide) (by decide) kL_critical ⟨_, _, rfl⟩ fLw_ok nLw_ok aLw_ok iLw_ok lLw_ok (fun p e R s m args below meth c Q D cy z r A C hR1 hR2 => List.forall_mem_cons.mpr ⟨cOK_use (fun _ _ _ _ _ _ _ _ h => let ⟨sp, h1, h2, h3⟩ := u_wcr l hlt _ _ _ _ _ _ _ _ h; ⟨sp, cOKx_V C h1 vL_critical_62 ⟨by decide, by decide, by decide +kernel⟩ ⟨by rw [hR1]; decide, by rw [hR2]; decide⟩ (k := 12) (T := TX11) (N := 15) rfl (by decide) h2, h3⟩), fun _ h => absurd h List.not_mem_nil⟩) qLw_ok gLw_ok rfl (List.forall_mem_cons.mpr ⟨⟨by decide, mgd 796 (by decide +kernel) (by decide +kernel)⟩, fun _ h => absurd h List.not_mem_nil⟩) (fun _ _ _ _ z => z) ?_ ?_
  · rintro _ S ⟨rfl, hp⟩
    refine ⟨Nat.le_of_ble_eq_true rfl, 300, ?_⟩
    show (0 = 0 ∧ (∃ (F_1 : Nat → Nat × Nat) (X_2 : Nat → GX) (kz_3 : Nat → Nat) (Q_4 : Ab), (WT S F_1 t X_2 kz_3 Q_4) ∧ 0 + 1 ≤ 1 ∧ 0 + 6 ≤ 6 ∧ ((∀ (x_6 : Int32) (S_5 : MM), (∃ n, n < 4 ∧ p = nI n ∧ x_6 = nI (crN (Q_4.G n) (Q_4.G n).n) ∧ wtQ S S_5 F_1 t X_2 kz_3 Q_4) → (isO S_5 18 o9 ∧ inR S_5 o9 (0 : Int32) ∧ (([] : List MV) = [] ∧ mret (some .int) (sp_lwcr t p o9 F X kz Q) [.inr (.inr (some t)), .inl p, .inr (.inr (some o9))] S (some (.inl (0 : Int32))) (rJ S_5 o9 (vp_updL (eJ S_5 o9) (0 : Int32).toNatClampNeg x_6.toInt64)) (0 + 1) (0 + 6)))) ∧ ((np 4 p) → (∀ e_8, (([] : List MV) = [] ∧ mret (some .int) (sp_lwcr t p o9 F X kz Q) [.inr (.inr (some t)), .inl p, .inr (.inr (some o9))] S (some (.inl (1 : Int32))) S (0 + 1) (0 + 6)))))))
    obtain ⟨hp, ho⟩ := hp
    exact ⟨rfl, F, X, kz, Q, hp, Nat.le_of_eq (Nat.zero_add _), Nat.le_of_eq (Nat.zero_add _), fun v9 S9 h => have w9 : isO S9 18 o9 ∧ inR S9 o9 0 := (by obtain ⟨_, _, _, _, gK⟩ := h; exact gK.o ho); ⟨w9.1, w9.2, rfl, trivial, ⟨_, rfl, Or.inl ⟨rfl, v9, S9, h, rfl⟩⟩, Nat.le_of_eq (Nat.zero_add _), Nat.le_of_eq (Nat.zero_add _)⟩, fun h e9 => ⟨rfl, trivial, ⟨_, rfl, Or.inr (⟨rfl, rfl, h⟩)⟩, Nat.le_of_eq (Nat.zero_add _), Nat.le_of_eq (Nat.zero_add _)⟩⟩
  · exact fun _ _ _ _ _ h => by cases h
theorem u_lwcr (l : Launch) (hlt : l.stackTraces = false) : UsX l yL_critical (Cond.codeWith yL_critical cL_critical 4 (some .int) [(0, 9, 12, 19)]) (some .int) 9 151 99 T_lwcr := by
  intro Rc Rs av S cs sl K Kx h
  unfold T_lwcr at h
  split at h
  · rename_i t_o p o9_o
    obtain ⟨t, rfl, h_1⟩ := pa_of h
    obtain ⟨o9, rfl, h_2⟩ := pa_of h_1
    obtain ⟨F, X, kz, Q, hp, hc, hs, hk⟩ := h_2
    refine ⟨(sp_lwcr t p o9 F X kz Q), c_lwcr l hlt t p o9 F X kz Q, fun _ _ _ => trivial, ⟨rfl, hp⟩, hc, hs, fun v9 S' h8 => by
      obtain ⟨v8, h7, h8⟩ := h8
      cases h7
      exact hk _ _ h8, fun _ _ q => q.elim⟩
  · exact h.elim
def T_lwdl : TR := fun Rc Rs av S cs sl K _Kx => match av with
  | [.inr (.inr t_o), .inl p, .inl x, .inl y, .inr (.inr o9_o)] => pa t_o fun t => (pa o9_o fun o9 => (∃ (F : Nat → Nat × Nat) (X : Nat → GX) (kz : Nat → Nat) (Q : Ab), ((WT S F t X kz Q ∧ AbE kz) ∧ lwO S F o9) ∧ cs + (nc_dlC kz Q p.toNatClampNeg y.toNatClampNeg + 3) ≤ Rc ∧ sl + (nc_dlZ kz Q p.toNatClampNeg y.toNatClampNeg + 18) ≤ Rs ∧ (∀ (v : Int32) (S' : MM), ((v = 0 ∧ ∃ (v0 : Int32) (S0 : MM), (∃ (n i m : Nat) (Q1 : Ab) (X1 : Nat → GX) (kz1 : Nat → Nat), n < 4 ∧ p = nI n ∧ dlOk Q n x y i m ∧ roP (Q.G n) n m ∧ opR Q X kz n (List.replicate m (none, i)) Q1 X1 kz1 ∧ v0 = nI (visN (Q1.G n) (Q1.T n)) ∧ wtQ S S0 F t X1 kz1 Q1) ∧ S' = loJ S0 o9 v0.toInt64) ∨ (v = 1 ∧ S' = S ∧ (np 4 p ∨ ∃ n, n < 4 ∧ p = nI n ∧ ¬ ∃ i m, dlOk Q n x y i m)) ∨ (v = 2 ∧ S' = S ∧ (∃ n i m, n < 4 ∧ p = nI n ∧ dlOk Q n x y i m ∧ ¬ roP (Q.G n) n m))) → K (some (.inl v)) S' (cs + (nc_dlC kz Q p.toNatClampNeg y.toNatClampNeg + 3)) (sl + (nc_dlZ kz Q p.toNatClampNeg y.toNatClampNeg + 18)))))
  | _ => False
noncomputable def sp_lwdl (t : Nat) (p : Int32) (x : Int32) (y : Int32) (o9 : Nat) (F : Nat → Nat × Nat) (X : Nat → GX) (kz : Nat → Nat) (Q : Ab) : Sp := (fun av S => av = [.inr (.inr (some t)), .inl p, .inl x, .inl y, .inr (.inr (some o9))] ∧ ((WT S F t X kz Q ∧ AbE kz) ∧ lwO S F o9), fun _ S => nc_dlC kz Q p.toNatClampNeg y.toNatClampNeg + 3, fun _ S => nc_dlZ kz Q p.toNatClampNeg y.toNatClampNeg + 18, fun _ S rv S' => ∃ v, rv = (some (.inl v)) ∧ ((v = 0 ∧ ∃ (v0 : Int32) (S0 : MM), (∃ (n i m : Nat) (Q1 : Ab) (X1 : Nat → GX) (kz1 : Nat → Nat), n < 4 ∧ p = nI n ∧ dlOk Q n x y i m ∧ roP (Q.G n) n m ∧ opR Q X kz n (List.replicate m (none, i)) Q1 X1 kz1 ∧ v0 = nI (visN (Q1.G n) (Q1.T n)) ∧ wtQ S S0 F t X1 kz1 Q1) ∧ S' = loJ S0 o9 v0.toInt64) ∨ (v = 1 ∧ S' = S ∧ (np 4 p ∨ ∃ n, n < 4 ∧ p = nI n ∧ ¬ ∃ i m, dlOk Q n x y i m)) ∨ (v = 2 ∧ S' = S ∧ (∃ n i m, n < 4 ∧ p = nI n ∧ dlOk Q n x y i m ∧ ¬ roP (Q.G n) n m))), fun _ _ _ _ => False)
def tL_delete : CD := [(0, .aload 4), (2, .iconst 0), (3, .aload_n 0), (4, .iload_n 1), (5, .iload_n 2), (6, .iload_n 3), (7, .invokevirtual 27), (10, .i2l), (11, .lastore), (12, .goto 11), (15, .astore 5), (17, .iconst 1), (18, .ireturn), (19, .astore 5), (21, .iconst 2), (22, .ireturn), (23, .iconst 0), (24, .ireturn)]
set_option maxRecDepth 100000 in
theorem kL_delete : chk cL_delete tL_delete = true := by decide +kernel
theorem vL_delete_27 : ∀ w ∈ ([.methodLink RL 27 yX11_delete, .instanceMethod yX11_delete, .selects yX11_delete.cls yX11_delete yX11_delete, .initialized yX11_delete.cls, .code yX11_delete cX11_delete 5 (some .int)] : List Cond), w ∈ lw_good := List.forall_mem_cons.mpr ⟨mgd 1074 (by decide +kernel) (by decide +kernel), List.forall_mem_cons.mpr ⟨mgd 1075 (by decide +kernel) (by decide +kernel), List.forall_mem_cons.mpr ⟨mgd 1076 (by decide +kernel) (by decide +kernel), List.forall_mem_cons.mpr ⟨mgd 121 (by decide +kernel) (by decide +kernel), List.forall_mem_cons.mpr ⟨mgd 1077 (by decide +kernel) (by decide +kernel), fun _ h => absurd h List.not_mem_nil⟩⟩⟩⟩⟩
set_option maxRecDepth 100000 in
set_option maxHeartbeats 2000000 in
theorem c_lwdl (l : Launch) (hlt : l.stackTraces = false) : ∀ (t : Nat) (p : Int32) (x : Int32) (y : Int32) (o9 : Nat) (F : Nat → Nat × Nat) (X : Nat → GX) (kz : Nat → Nat) (Q : Ab), CtX l yL_delete (Cond.codeWith yL_delete cL_delete 6 (some .int) [(0, 12, 15, 19), (0, 12, 19, 13)]) (some .int) 11 266 (sp_lwdl t p x y o9 F X kz Q) := by
  intro t p x y o9 F X kz Q
  refine CtX.ofH hlt (fLw, nLw, aLw, iLw, lLw, [(27, 0, 4, 1, T_wdl)], qLw, gLw, []) false tL_delete [((0, 12, 15, 19), 1), ((0, 12, 19, 13), 0)] (fun _ _ _ => none) (by decide) (by decide) kL_delete ⟨_, _, rfl⟩ fLw_ok nLw_ok aLw_ok iLw_ok lLw_ok (fun p e R s m args below meth c Q D cy z r A C hR1 hR2 => List.forall_mem_cons.mpr ⟨cOK_use (fun _ _ _ _ _ _ _ _ h => let ⟨sp, h1, h2, h3⟩ := u_wdl l hlt _ _ _ _ _ _ _ _ h; ⟨sp, cOKx_V C h1 vL_delete_27 ⟨by decide, by decide, by decide +kernel⟩ ⟨by rw [hR1]; decide, by rw [hR2]; decide⟩ (k := 12) (T := TX11) (N := 15) rfl (by decide) h2, h3⟩), fun _ h => absurd h List.not_mem_nil⟩) qLw_ok gLw_ok rfl (List.forall_mem_cons.mpr ⟨⟨by decide, mgd 796 (by decide +kernel) (by decide +kernel)⟩, List.forall_mem_cons.mpr ⟨⟨by decide, mgd 697 (by decide +kernel) (by decide +kernel)⟩, fun _ h => absurd h List.not_mem_nil⟩⟩) (fun _ _ _ _ z => z) ?_ ?_
  · rintro _ S ⟨rfl, hp⟩
    refine ⟨Nat.le_of_ble_eq_true rfl, 300, ?_⟩
    show (0 = 0 ∧ (∃ (F_1 : Nat → Nat × Nat) (X_2 : Nat → GX) (kz_3 : Nat → Nat) (Q_4 : Ab), (WT S F_1 t X_2 kz_3 Q_4 ∧ AbE kz_3) ∧ 0 + (nc_dlC kz_3 Q_4 p.toNatClampNeg y.toNatClampNeg + 3) ≤ nc_dlC kz Q p.toNatClampNeg y.toNatClampNeg + 3 ∧ 0 + (nc_dlZ kz_3 Q_4 p.toNatClampNeg y.toNatClampNeg + 18) ≤ nc_dlZ kz Q p.toNatClampNeg y.toNatClampNeg + 18 ∧ ((∀ (x_6 : Int32) (S_5 : MM), (∃ (n i m : Nat) (Q1 : Ab) (X1 : Nat → GX) (kz1 : Nat → Nat), n < 4 ∧ p = nI n ∧ dlOk Q_4 n x y i m ∧ roP (Q_4.G n) n m ∧ opR Q_4 X_2 kz_3 n (List.replicate m (none, i)) Q1 X1 kz1 ∧ x_6 = nI (visN (Q1.G n) (Q1.T n)) ∧ wtQ S S_5 F_1 t X1 kz1 Q1) → (isO S_5 18 o9 ∧ inR S_5 o9 (0 : Int32) ∧ (([] : List MV) = [] ∧ mret (some .int) (sp_lwdl t p x y o9 F X kz Q) [.inr (.inr (some t)), .inl p, .inl x, .inl y, .inr (.inr (some o9))] S (some (.inl (0 : Int32))) (rJ S_5 o9 (vp_updL (eJ S_5 o9) (0 : Int32).toNatClampNeg x_6.toInt64)) (0 + (nc_dlC kz_3 Q_4 p.toNatClampNeg y.toNatClampNeg + 3)) (0 + (nc_dlZ kz_3 Q_4 p.toNatClampNeg y.toNatClampNeg + 18))))) ∧ ((np 4 p ∨ ∃ n, n < 4 ∧ p = nI n ∧ ¬ ∃ i m, dlOk Q_4 n x y i m) → (∀ e_8, (([] : List MV) = [] ∧ mret (some .int) (sp_lwdl t p x y o9 F X kz Q) [.inr (.inr (some t)), .inl p, .inl x, .inl y, .inr (.inr (some o9))] S (some (.inl (1 : Int32))) S (0 + (nc_dlC kz_3 Q_4 p.toNatClampNeg y.toNatClampNeg + 3)) (0 + (nc_dlZ kz_3 Q_4 p.toNatClampNeg y.toNatClampNeg + 18))))) ∧ ((∃ n i m, n < 4 ∧ p = nI n ∧ dlOk Q_4 n x y i m ∧ ¬ roP (Q_4.G n) n m) → (∀ e_10, (([] : List MV) = [] ∧ mret (some .int) (sp_lwdl t p x y o9 F X kz Q) [.inr (.inr (some t)), .inl p, .inl x, .inl y, .inr (.inr (some o9))] S (some (.inl (2 : Int32))) S (0 + (nc_dlC kz_3 Q_4 p.toNatClampNeg y.toNatClampNeg + 3)) (0 + (nc_dlZ kz_3 Q_4 p.toNatClampNeg y.toNatClampNeg + 18))))))))
    obtain ⟨hp, ho⟩ := hp
    exact ⟨rfl, F, X, kz, Q, hp, Nat.le_of_eq (Nat.zero_add _), Nat.le_of_eq (Nat.zero_add _), fun v9 S9 h => have w9 : isO S9 18 o9 ∧ inR S9 o9 0 := (by obtain ⟨_, _, _, _, _, _, _, _, _, _, _, _, gK⟩ := h; exact gK.o ho); ⟨w9.1, w9.2, rfl, trivial, ⟨_, rfl, Or.inl ⟨rfl, v9, S9, h, rfl⟩⟩, Nat.le_of_eq (Nat.zero_add _), Nat.le_of_eq (Nat.zero_add _)⟩, fun h e9 => ⟨rfl, trivial, ⟨_, rfl, Or.inr (Or.inl ⟨rfl, rfl, h⟩)⟩, Nat.le_of_eq (Nat.zero_add _), Nat.le_of_eq (Nat.zero_add _)⟩, fun h e9 => ⟨rfl, trivial, ⟨_, rfl, Or.inr (Or.inr (⟨rfl, rfl, h⟩))⟩, Nat.le_of_eq (Nat.zero_add _), Nat.le_of_eq (Nat.zero_add _)⟩⟩
  · exact fun _ _ _ _ _ h => by cases h
theorem u_lwdl (l : Launch) (hlt : l.stackTraces = false) : UsX l yL_delete (Cond.codeWith yL_delete cL_delete 6 (some .int) [(0, 12, 15, 19), (0, 12, 19, 13)]) (some .int) 11 266 99 T_lwdl := by
  intro Rc Rs av S cs sl K Kx h
  unfold T_lwdl at h
  split at h
  · rename_i t_o p x y o9_o
    obtain ⟨t, rfl, h_1⟩ := pa_of h
    obtain ⟨o9, rfl, h_2⟩ := pa_of h_1
    obtain ⟨F, X, kz, Q, hp, hc, hs, hk⟩ := h_2
    refine ⟨(sp_lwdl t p x y o9 F X kz Q), c_lwdl l hlt t p x y o9 F X kz Q, fun _ _ _ => trivial, ⟨rfl, hp⟩, hc, hs, fun v9 S' h8 => by
      obtain ⟨v8, h7, h8⟩ := h8
      cases h7
      exact hk _ _ h8, fun _ _ q => q.elim⟩
  · exact h.elim
def T_lwdf : TR := fun Rc Rs av S cs sl K _Kx => match av with
  | [.inr (.inr t_o), .inl b, .inl c, .inr (.inr o9_o)] => pa t_o fun t => (pa o9_o fun o9 => (∃ (F : Nat → Nat × Nat) (X : Nat → GX) (kz : Nat → Nat) (Q : Ab), ((WT S F t X kz Q ∧ AbM Q) ∧ lwO S F o9) ∧ cs + (hrC (dfP Q b.toNatClampNeg c.toNatClampNeg) (kz 12, [], 0, 0, 0, 0) + 3) ≤ Rc ∧ sl + (hrZ (dfP Q b.toNatClampNeg c.toNatClampNeg) (kz 12, [], 0, 0, 0, 0) + 18) ≤ Rs ∧ (∀ (v : Int32) (S' : MM), ((v = 0 ∧ ∃ (v0 : Int32) (S0 : MM), (∃ i j p, i < 8 ∧ b = nI i ∧ j < 8 ∧ c = nI j ∧ Q.mp i = some p ∧ Q.mp j = some p ∧ v0 = nI (dfX kz Q i j).2.1.length ∧ wtQ S S0 F t X (upF kz 12 (dfX kz Q i j).1) (Q.sHu (dfX kz Q i j).2.1)) ∧ S' = loJ S0 o9 v0.toInt64) ∨ (v = 1 ∧ S' = S ∧ (np 8 b ∨ np 8 c)) ∨ (v = 2 ∧ S' = S ∧ (∃ i j, i < 8 ∧ b = nI i ∧ j < 8 ∧ c = nI j ∧ (Q.mp i = none ∨ Q.mp j = none))) ∨ (v = 3 ∧ S' = S ∧ (∃ i j p q, i < 8 ∧ b = nI i ∧ j < 8 ∧ c = nI j ∧ Q.mp i = some p ∧ Q.mp j = some q ∧ p ≠ q))) → K (some (.inl v)) S' (cs + (hrC (dfP Q b.toNatClampNeg c.toNatClampNeg) (kz 12, [], 0, 0, 0, 0) + 3)) (sl + (hrZ (dfP Q b.toNatClampNeg c.toNatClampNeg) (kz 12, [], 0, 0, 0, 0) + 18)))))
  | _ => False
def sp_lwdf (t : Nat) (b : Int32) (c : Int32) (o9 : Nat) (F : Nat → Nat × Nat) (X : Nat → GX) (kz : Nat → Nat) (Q : Ab) : Sp := (fun av S => av = [.inr (.inr (some t)), .inl b, .inl c, .inr (.inr (some o9))] ∧ ((WT S F t X kz Q ∧ AbM Q) ∧ lwO S F o9), fun _ S => hrC (dfP Q b.toNatClampNeg c.toNatClampNeg) (kz 12, [], 0, 0, 0, 0) + 3, fun _ S => hrZ (dfP Q b.toNatClampNeg c.toNatClampNeg) (kz 12, [], 0, 0, 0, 0) + 18, fun _ S rv S' => ∃ v, rv = (some (.inl v)) ∧ ((v = 0 ∧ ∃ (v0 : Int32) (S0 : MM), (∃ i j p, i < 8 ∧ b = nI i ∧ j < 8 ∧ c = nI j ∧ Q.mp i = some p ∧ Q.mp j = some p ∧ v0 = nI (dfX kz Q i j).2.1.length ∧ wtQ S S0 F t X (upF kz 12 (dfX kz Q i j).1) (Q.sHu (dfX kz Q i j).2.1)) ∧ S' = loJ S0 o9 v0.toInt64) ∨ (v = 1 ∧ S' = S ∧ (np 8 b ∨ np 8 c)) ∨ (v = 2 ∧ S' = S ∧ (∃ i j, i < 8 ∧ b = nI i ∧ j < 8 ∧ c = nI j ∧ (Q.mp i = none ∨ Q.mp j = none))) ∨ (v = 3 ∧ S' = S ∧ (∃ i j p q, i < 8 ∧ b = nI i ∧ j < 8 ∧ c = nI j ∧ Q.mp i = some p ∧ Q.mp j = some q ∧ p ≠ q))), fun _ _ _ _ => False)
def tL_differ : CD := [(0, .aload_n 3), (1, .iconst 0), (2, .aload_n 0), (3, .iload_n 1), (4, .iload_n 2), (5, .invokevirtual 74), (8, .i2l), (9, .lastore), (10, .goto 15), (13, .astore 4), (15, .iconst 1), (16, .ireturn), (17, .astore 4), (19, .iconst 2), (20, .ireturn), (21, .astore 4), (23, .iconst 3), (24, .ireturn), (25, .iconst 0), (26, .ireturn)]
set_option maxRecDepth 100000 in
theorem kL_differ : chk cL_differ tL_differ = true := by decide +kernel
theorem vL_differ_74 : ∀ w ∈ ([.methodLink RL 74 yX11_differ, .instanceMethod yX11_differ, .selects yX11_differ.cls yX11_differ yX11_differ, .initialized yX11_differ.cls, .code yX11_differ cX11_differ 5 (some .int)] : List Cond), w ∈ lw_good := List.forall_mem_cons.mpr ⟨mgd 1281 (by decide +kernel) (by decide +kernel), List.forall_mem_cons.mpr ⟨mgd 1282 (by decide +kernel) (by decide +kernel), List.forall_mem_cons.mpr ⟨mgd 1283 (by decide +kernel) (by decide +kernel), List.forall_mem_cons.mpr ⟨mgd 121 (by decide +kernel) (by decide +kernel), List.forall_mem_cons.mpr ⟨mgd 1284 (by decide +kernel) (by decide +kernel), fun _ h => absurd h List.not_mem_nil⟩⟩⟩⟩⟩
set_option maxRecDepth 100000 in
set_option maxHeartbeats 2000000 in
theorem c_lwdf (l : Launch) (hlt : l.stackTraces = false) : ∀ (t : Nat) (b : Int32) (c : Int32) (o9 : Nat) (F : Nat → Nat × Nat) (X : Nat → GX) (kz : Nat → Nat) (Q : Ab), CtX l yL_differ (Cond.codeWith yL_differ cL_differ 5 (some .int) [(0, 10, 13, 19), (0, 10, 17, 34), (0, 10, 21, 25)]) (some .int) 9 154 (sp_lwdf t b c o9 F X kz Q) := by
  intro t b c o9 F X kz Q
  refine CtX.ofH hlt (fLw, nLw, aLw, iLw, lLw, [(74, 0, 3, 1, T_wdf)], qLw, gLw, []) false tL_differ [((0, 10, 13, 19), 1), ((0, 10, 17, 34), 2), ((0, 10, 21, 25), 3)] (fun _ _ _ => none) (by decide) (by decide) kL_differ ⟨_, _, rfl⟩ fLw_ok nLw_ok aLw_ok iLw_ok lLw_ok (fun p e R s m args below meth c Q D cy z r A C hR1 hR2 => List.forall_mem_cons.mpr ⟨cOK_use (fun _ _ _ _ _ _ _ _ h => let ⟨sp, h1, h2, h3⟩ := u_wdf l hlt _ _ _ _ _ _ _ _ h; ⟨sp, cOKx_V C h1 vL_differ_74 ⟨by decide, by decide, by decide +kernel⟩ ⟨by rw [hR1]; decide, by rw [hR2]; decide⟩ (k := 12) (T := TX11) (N := 15) rfl (by decide) h2, h3⟩), fun _ h => absurd h List.not_mem_nil⟩) qLw_ok gLw_ok rfl (List.forall_mem_cons.mpr ⟨⟨by decide, mgd 796 (by decide +kernel) (by decide +kernel)⟩, List.forall_mem_cons.mpr ⟨⟨by decide, mgd 1085 (by decide +kernel) (by decide +kernel)⟩, List.forall_mem_cons.mpr ⟨⟨by decide, mgd 822 (by decide +kernel) (by decide +kernel)⟩, fun _ h => absurd h List.not_mem_nil⟩⟩⟩) (fun _ _ _ _ z => z) ?_ ?_
  · rintro _ S ⟨rfl, hp⟩
    refine ⟨Nat.le_of_ble_eq_true rfl, 300, ?_⟩
    show (0 = 0 ∧ (∃ (F_1 : Nat → Nat × Nat) (X_2 : Nat → GX) (kz_3 : Nat → Nat) (Q_4 : Ab), (WT S F_1 t X_2 kz_3 Q_4 ∧ AbM Q_4) ∧ 0 + (hrC (dfP Q_4 b.toNatClampNeg c.toNatClampNeg) (kz_3 12, [], 0, 0, 0, 0) + 3) ≤ hrC (dfP Q b.toNatClampNeg c.toNatClampNeg) (kz 12, [], 0, 0, 0, 0) + 3 ∧ 0 + (hrZ (dfP Q_4 b.toNatClampNeg c.toNatClampNeg) (kz_3 12, [], 0, 0, 0, 0) + 18) ≤ hrZ (dfP Q b.toNatClampNeg c.toNatClampNeg) (kz 12, [], 0, 0, 0, 0) + 18 ∧ ((∀ (x_6 : Int32) (S_5 : MM), (∃ i j p, i < 8 ∧ b = nI i ∧ j < 8 ∧ c = nI j ∧ Q_4.mp i = some p ∧ Q_4.mp j = some p ∧ x_6 = nI (dfX kz_3 Q_4 i j).2.1.length ∧ wtQ S S_5 F_1 t X_2 (upF kz_3 12 (dfX kz_3 Q_4 i j).1) (Q_4.sHu (dfX kz_3 Q_4 i j).2.1)) → (isO S_5 18 o9 ∧ inR S_5 o9 (0 : Int32) ∧ (([] : List MV) = [] ∧ mret (some .int) (sp_lwdf t b c o9 F X kz Q) [.inr (.inr (some t)), .inl b, .inl c, .inr (.inr (some o9))] S (some (.inl (0 : Int32))) (rJ S_5 o9 (vp_updL (eJ S_5 o9) (0 : Int32).toNatClampNeg x_6.toInt64)) (0 + (hrC (dfP Q_4 b.toNatClampNeg c.toNatClampNeg) (kz_3 12, [], 0, 0, 0, 0) + 3)) (0 + (hrZ (dfP Q_4 b.toNatClampNeg c.toNatClampNeg) (kz_3 12, [], 0, 0, 0, 0) + 18))))) ∧ ((np 8 b ∨ np 8 c) → (∀ e_8, (([] : List MV) = [] ∧ mret (some .int) (sp_lwdf t b c o9 F X kz Q) [.inr (.inr (some t)), .inl b, .inl c, .inr (.inr (some o9))] S (some (.inl (1 : Int32))) S (0 + (hrC (dfP Q_4 b.toNatClampNeg c.toNatClampNeg) (kz_3 12, [], 0, 0, 0, 0) + 3)) (0 + (hrZ (dfP Q_4 b.toNatClampNeg c.toNatClampNeg) (kz_3 12, [], 0, 0, 0, 0) + 18))))) ∧ ((∃ i j, i < 8 ∧ b = nI i ∧ j < 8 ∧ c = nI j ∧ (Q_4.mp i = none ∨ Q_4.mp j = none)) → (∀ e_10, (([] : List MV) = [] ∧ mret (some .int) (sp_lwdf t b c o9 F X kz Q) [.inr (.inr (some t)), .inl b, .inl c, .inr (.inr (some o9))] S (some (.inl (2 : Int32))) S (0 + (hrC (dfP Q_4 b.toNatClampNeg c.toNatClampNeg) (kz_3 12, [], 0, 0, 0, 0) + 3)) (0 + (hrZ (dfP Q_4 b.toNatClampNeg c.toNatClampNeg) (kz_3 12, [], 0, 0, 0, 0) + 18))))) ∧ ((∃ i j p q, i < 8 ∧ b = nI i ∧ j < 8 ∧ c = nI j ∧ Q_4.mp i = some p ∧ Q_4.mp j = some q ∧ p ≠ q) → (∀ e_12, (([] : List MV) = [] ∧ mret (some .int) (sp_lwdf t b c o9 F X kz Q) [.inr (.inr (some t)), .inl b, .inl c, .inr (.inr (some o9))] S (some (.inl (3 : Int32))) S (0 + (hrC (dfP Q_4 b.toNatClampNeg c.toNatClampNeg) (kz_3 12, [], 0, 0, 0, 0) + 3)) (0 + (hrZ (dfP Q_4 b.toNatClampNeg c.toNatClampNeg) (kz_3 12, [], 0, 0, 0, 0) + 18))))))))
    obtain ⟨hp, ho⟩ := hp
    exact ⟨rfl, F, X, kz, Q, hp, Nat.le_of_eq (Nat.zero_add _), Nat.le_of_eq (Nat.zero_add _), fun v9 S9 h => have w9 : isO S9 18 o9 ∧ inR S9 o9 0 := (by obtain ⟨_, _, _, _, _, _, _, _, _, _, gK⟩ := h; exact gK.o ho); ⟨w9.1, w9.2, rfl, trivial, ⟨_, rfl, Or.inl ⟨rfl, v9, S9, h, rfl⟩⟩, Nat.le_of_eq (Nat.zero_add _), Nat.le_of_eq (Nat.zero_add _)⟩, fun h e9 => ⟨rfl, trivial, ⟨_, rfl, Or.inr (Or.inl ⟨rfl, rfl, h⟩)⟩, Nat.le_of_eq (Nat.zero_add _), Nat.le_of_eq (Nat.zero_add _)⟩, fun h e9 => ⟨rfl, trivial, ⟨_, rfl, Or.inr (Or.inr (Or.inl ⟨rfl, rfl, h⟩))⟩, Nat.le_of_eq (Nat.zero_add _), Nat.le_of_eq (Nat.zero_add _)⟩, fun h e9 => ⟨rfl, trivial, ⟨_, rfl, Or.inr (Or.inr (Or.inr (⟨rfl, rfl, h⟩)))⟩, Nat.le_of_eq (Nat.zero_add _), Nat.le_of_eq (Nat.zero_add _)⟩⟩
  · exact fun _ _ _ _ _ h => by cases h
theorem u_lwdf (l : Launch) (hlt : l.stackTraces = false) : UsX l yL_differ (Cond.codeWith yL_differ cL_differ 5 (some .int) [(0, 10, 13, 19), (0, 10, 17, 34), (0, 10, 21, 25)]) (some .int) 9 154 99 T_lwdf := by
  intro Rc Rs av S cs sl K Kx h
  unfold T_lwdf at h
  split at h
  · rename_i t_o b c o9_o
    obtain ⟨t, rfl, h_1⟩ := pa_of h
    obtain ⟨o9, rfl, h_2⟩ := pa_of h_1
    obtain ⟨F, X, kz, Q, hp, hc, hs, hk⟩ := h_2
    refine ⟨(sp_lwdf t b c o9 F X kz Q), c_lwdf l hlt t b c o9 F X kz Q, fun _ _ _ => trivial, ⟨rfl, hp⟩, hc, hs, fun v9 S' h8 => by
      obtain ⟨v8, h7, h8⟩ := h8
      cases h7
      exact hk _ _ h8, fun _ _ q => q.elim⟩
  · exact h.elim
def T_lwen : TR := fun Rc Rs av S cs sl K _Kx => match av with
  | [.inr (.inr t_o), .inl x, .inr (.inr o9_o)] => pa t_o fun t => (pa o9_o fun o9 => (∃ (F : Nat → Nat × Nat) (X : Nat → GX) (kz : Nat → Nat) (Q : Ab), ((WT S F t X kz Q) ∧ lwO S F o9) ∧ cs + 1 ≤ Rc ∧ sl + 6 ≤ Rs ∧ (∀ (v : Int32) (S' : MM), ((v = 0 ∧ ∃ (v0 : Int32) (S0 : MM), (∃ n, n ≤ Q.tp.length ∧ x = nI n ∧ v0 = nI (Q.tp.length - n) ∧ wtQ S S0 F t X kz (Q.sTp (Q.tp.take n))) ∧ S' = loJ S0 o9 v0.toInt64) ∨ (v = 1 ∧ S' = S ∧ (np (Q.tp.length + 1) x))) → K (some (.inl v)) S' (cs + 1) (sl + 6))))
  | _ => False
def sp_lwen (t : Nat) (x : Int32) (o9 : Nat) (F : Nat → Nat × Nat) (X : Nat → GX) (kz : Nat → Nat) (Q : Ab) : Sp := (fun av S => av = [.inr (.inr (some t)), .inl x, .inr (.inr (some o9))] ∧ ((WT S F t X kz Q) ∧ lwO S F o9), fun _ S => 1, fun _ S => 6, fun _ S rv S' => ∃ v, rv = (some (.inl v)) ∧ ((v = 0 ∧ ∃ (v0 : Int32) (S0 : MM), (∃ n, n ≤ Q.tp.length ∧ x = nI n ∧ v0 = nI (Q.tp.length - n) ∧ wtQ S S0 F t X kz (Q.sTp (Q.tp.take n))) ∧ S' = loJ S0 o9 v0.toInt64) ∨ (v = 1 ∧ S' = S ∧ (np (Q.tp.length + 1) x))), fun _ _ _ _ => False)
def tL_end : CD := [(0, .aload_n 2), (1, .iconst 0), (2, .aload_n 0), (3, .iload_n 1), (4, .invokevirtual 15), (7, .i2l), (8, .lastore), (9, .goto 6), (12, .astore_n 3), (13, .iconst 1), (14, .ireturn), (15, .iconst 0), (16, .ireturn)]
set_option maxRecDepth 100000 in
theorem kL_end : chk cL_end tL_end = true := by decide +kernel
theorem vL_end_15 : ∀ w ∈ ([.methodLink RL 15 yX11_end, .instanceMethod yX11_end, .selects yX11_end.cls yX11_end yX11_end, .initialized yX11_end.cls, .code yX11_end cX11_end 3 (some .int)] : List Cond), w ∈ lw_good := List.forall_mem_cons.mpr ⟨mgd 797 (by decide +kernel) (by decide +kernel), List.forall_mem_cons.mpr ⟨mgd 798 (by decide +kernel) (by decide +kernel), List.forall_mem_cons.mpr ⟨mgd 799 (by decide +kernel) (by decide +kernel), List.forall_mem_cons.mpr ⟨mgd 121 (by decide +kernel) (by decide +kernel), List.forall_mem_cons.mpr ⟨mgd 800 (by decide +kernel) (by decide +kernel), fun _ h => absurd h List.not_mem_nil⟩⟩⟩⟩⟩
set_option maxRecDepth 100000 in
set_option maxHeartbeats 2000000 in
theorem c_lwen (l : Launch) (hlt : l.stackTraces = false) : ∀ (t : Nat) (x : Int32) (o9 : Nat) (F : Nat → Nat × Nat) (X : Nat → GX) (kz : Nat → Nat) (Q : Ab), CtX l yL_end (Cond.codeWith yL_end cL_end 4 (some .int) [(0, 9, 12, 19)]) (some .int) 8 131 (sp_lwen t x o9 F X kz Q) := by
  intro t x o9 F X kz Q
  refine CtX.ofH hlt (fLw, nLw, aLw, iLw, lLw, [(15, 0, 2, 1, T_wen)], qLw, gLw, []) false tL_end [((0, 9, 12, 19), 1)] (fun _ _ _ => none) (by decide) (by decide) kL_end ⟨_, _, rfl⟩ fLw_ok nLw_ok aLw_ok iLw_ok lLw_ok (fun p e R s m args below meth c Q D cy z r A C hR1 hR2 => List.forall_mem_cons.mpr ⟨cOK_use (fun _ _ _ _ _ _ _ _ h => let ⟨sp, h1, h2, h3⟩ := u_wen l hlt _ _ _ _ _ _ _ _ h; ⟨sp, cOKx_V C h1 vL_end_15 ⟨by decide, by decide, by decide +kernel⟩ ⟨by rw [hR1]; decide, by rw [hR2]; decide⟩ (k := 12) (T := TX11) (N := 15) rfl (by decide) h2, h3⟩), fun _ h => absurd h List.not_mem_nil⟩) qLw_ok gLw_ok rfl (List.forall_mem_cons.mpr ⟨⟨by decide, mgd 796 (by decide +kernel) (by decide +kernel)⟩, fun _ h => absurd h List.not_mem_nil⟩) (fun _ _ _ _ z => z) ?_ ?_
  · rintro _ S ⟨rfl, hp⟩
    refine ⟨Nat.le_of_ble_eq_true rfl, 300, ?_⟩
    show (0 = 0 ∧ (∃ (F_1 : Nat → Nat × Nat) (X_2 : Nat → GX) (kz_3 : Nat → Nat) (Q_4 : Ab), (WT S F_1 t X_2 kz_3 Q_4) ∧ 0 + 1 ≤ 1 ∧ 0 + 6 ≤ 6 ∧ ((∀ (x_6 : Int32) (S_5 : MM), (∃ n, n ≤ Q_4.tp.length ∧ x = nI n ∧ x_6 = nI (Q_4.tp.length - n) ∧ wtQ S S_5 F_1 t X_2 kz_3 (Q_4.sTp (Q_4.tp.take n))) → (isO S_5 18 o9 ∧ inR S_5 o9 (0 : Int32) ∧ (([] : List MV) = [] ∧ mret (some .int) (sp_lwen t x o9 F X kz Q) [.inr (.inr (some t)), .inl x, .inr (.inr (some o9))] S (some (.inl (0 : Int32))) (rJ S_5 o9 (vp_updL (eJ S_5 o9) (0 : Int32).toNatClampNeg x_6.toInt64)) (0 + 1) (0 + 6)))) ∧ ((np (Q_4.tp.length + 1) x) → (∀ e_8, (([] : List MV) = [] ∧ mret (some .int) (sp_lwen t x o9 F X kz Q) [.inr (.inr (some t)), .inl x, .inr (.inr (some o9))] S (some (.inl (1 : Int32))) S (0 + 1) (0 + 6)))))))
    obtain ⟨hp, ho⟩ := hp
    exact ⟨rfl, F, X, kz, Q, hp, Nat.le_of_eq (Nat.zero_add _), Nat.le_of_eq (Nat.zero_add _), fun v9 S9 h => have w9 : isO S9 18 o9 ∧ inR S9 o9 0 := (by obtain ⟨_, _, _, _, gK⟩ := h; exact gK.o ho); ⟨w9.1, w9.2, rfl, trivial, ⟨_, rfl, Or.inl ⟨rfl, v9, S9, h, rfl⟩⟩, Nat.le_of_eq (Nat.zero_add _), Nat.le_of_eq (Nat.zero_add _)⟩, fun h e9 => ⟨rfl, trivial, ⟨_, rfl, Or.inr (⟨rfl, rfl, h⟩)⟩, Nat.le_of_eq (Nat.zero_add _), Nat.le_of_eq (Nat.zero_add _)⟩⟩
  · exact fun _ _ _ _ _ h => by cases h
theorem u_lwen (l : Launch) (hlt : l.stackTraces = false) : UsX l yL_end (Cond.codeWith yL_end cL_end 4 (some .int) [(0, 9, 12, 19)]) (some .int) 8 131 99 T_lwen := by
  intro Rc Rs av S cs sl K Kx h
  unfold T_lwen at h
  split at h
  · rename_i t_o x o9_o
    obtain ⟨t, rfl, h_1⟩ := pa_of h
    obtain ⟨o9, rfl, h_2⟩ := pa_of h_1
    obtain ⟨F, X, kz, Q, hp, hc, hs, hk⟩ := h_2
    refine ⟨(sp_lwen t x o9 F X kz Q), c_lwen l hlt t x o9 F X kz Q, fun _ _ _ => trivial, ⟨rfl, hp⟩, hc, hs, fun v9 S' h8 => by
      obtain ⟨v8, h7, h8⟩ := h8
      cases h7
      exact hk _ _ h8, fun _ _ q => q.elim⟩
  · exact h.elim
def T_lwev : TR := fun Rc Rs av S cs sl K _Kx => match av with
  | [.inr (.inr t_o), .inl p, .inl x, .inr (.inr o9_o)] => pa t_o fun t => (pa o9_o fun o9 => (∃ (F : Nat → Nat × Nat) (X : Nat → GX) (kz : Nat → Nat) (Q : Ab), ((WT S F t X kz Q) ∧ lwO S F o9) ∧ cs + 2 ≤ Rc ∧ sl + 12 ≤ Rs ∧ (∀ (v : Int32) (S' : MM), ((v = 0 ∧ ∃ (v0 : Int32) (S0 : MM), (S0 = S ∧ ∃ n, n < 4 ∧ p = nI n ∧ evA (Q.G n) x v0) ∧ S' = loJ S0 o9 v0.toInt64) ∨ (v = 1 ∧ S' = S ∧ (np 4 p ∨ (x ≠ -1 ∧ np 256 x)))) → K (some (.inl v)) S' (cs + 2) (sl + 12))))
  | _ => False
def sp_lwev (t : Nat) (p : Int32) (x : Int32) (o9 : Nat) (F : Nat → Nat × Nat) (X : Nat → GX) (kz : Nat → Nat) (Q : Ab) : Sp := (fun av S => av = [.inr (.inr (some t)), .inl p, .inl x, .inr (.inr (some o9))] ∧ ((WT S F t X kz Q) ∧ lwO S F o9), fun _ S => 2, fun _ S => 12, fun _ S rv S' => ∃ v, rv = (some (.inl v)) ∧ ((v = 0 ∧ ∃ (v0 : Int32) (S0 : MM), (S0 = S ∧ ∃ n, n < 4 ∧ p = nI n ∧ evA (Q.G n) x v0) ∧ S' = loJ S0 o9 v0.toInt64) ∨ (v = 1 ∧ S' = S ∧ (np 4 p ∨ (x ≠ -1 ∧ np 256 x)))), fun _ _ _ _ => False)
def tL_events : CD := [(0, .aload_n 3), (1, .iconst 0), (2, .aload_n 0), (3, .iload_n 1), (4, .iload_n 2), (5, .invokevirtual 52), (8, .i2l), (9, .lastore), (10, .goto 7), (13, .astore 4), (15, .iconst 1), (16, .ireturn), (17, .iconst 0), (18, .ireturn)]
set_option maxRecDepth 100000 in
theorem kL_events : chk cL_events tL_events = true := by decide +kernel
theorem vL_events_52 : ∀ w ∈ ([.methodLink RL 52 yX11_events, .instanceMethod yX11_events, .selects yX11_events.cls yX11_events yX11_events, .initialized yX11_events.cls, .code yX11_events cX11_events 4 (some .int)] : List Cond), w ∈ lw_good := List.forall_mem_cons.mpr ⟨mgd 1201 (by decide +kernel) (by decide +kernel), List.forall_mem_cons.mpr ⟨mgd 1202 (by decide +kernel) (by decide +kernel), List.forall_mem_cons.mpr ⟨mgd 1203 (by decide +kernel) (by decide +kernel), List.forall_mem_cons.mpr ⟨mgd 121 (by decide +kernel) (by decide +kernel), List.forall_mem_cons.mpr ⟨mgd 1204 (by decide +kernel) (by decide +kernel), fun _ h => absurd h List.not_mem_nil⟩⟩⟩⟩⟩
set_option maxRecDepth 100000 in
set_option maxHeartbeats 2000000 in
theorem c_lwev (l : Launch) (hlt : l.stackTraces = false) : ∀ (t : Nat) (p : Int32) (x : Int32) (o9 : Nat) (F : Nat → Nat × Nat) (X : Nat → GX) (kz : Nat → Nat) (Q : Ab), CtX l yL_events (Cond.codeWith yL_events cL_events 5 (some .int) [(0, 10, 13, 19)]) (some .int) 9 153 (sp_lwev t p x o9 F X kz Q) := by
  intro t p x o9 F X kz Q
  refine CtX.ofH hlt (fLw, nLw, aLw, iLw, lLw, [(52, 0, 3, 1, T_wev)], qLw, gLw, []) false tL_events [((0, 10, 13, 19), 1)] (fun _ _ _ => none) (by decide) (by decide) kL_events ⟨_, _, rfl⟩ fLw_ok nLw_ok aLw_ok iLw_ok lLw_ok (fun p e R s m args below meth c Q D cy z r A C hR1 hR2 => List.forall_mem_cons.mpr ⟨cOK_use (fun _ _ _ _ _ _ _ _ h => let ⟨sp, h1, h2, h3⟩ := u_wev l hlt _ _ _ _ _ _ _ _ h; ⟨sp, cOKx_V C h1 vL_events_52 ⟨by decide, by decide, by decide +kernel⟩ ⟨by rw [hR1]; decide, by rw [hR2]; decide⟩ (k := 12) (T := TX11) (N := 15) rfl (by decide) h2, h3⟩), fun _ h => absurd h List.not_mem_nil⟩) qLw_ok gLw_ok rfl (List.forall_mem_cons.mpr ⟨⟨by decide, mgd 796 (by decide +kernel) (by decide +kernel)⟩, fun _ h => absurd h List.not_mem_nil⟩) (fun _ _ _ _ z => z) ?_ ?_
  · rintro _ S ⟨rfl, hp⟩
    refine ⟨Nat.le_of_ble_eq_true rfl, 300, ?_⟩
    show (0 = 0 ∧ (∃ (F_1 : Nat → Nat × Nat) (X_2 : Nat → GX) (kz_3 : Nat → Nat) (Q_4 : Ab), (WT S F_1 t X_2 kz_3 Q_4) ∧ 0 + 2 ≤ 2 ∧ 0 + 12 ≤ 12 ∧ ((∀ (x_6 : Int32) (S_5 : MM), (S_5 = S ∧ ∃ n, n < 4 ∧ p = nI n ∧ evA (Q_4.G n) x x_6) → (isO S_5 18 o9 ∧ inR S_5 o9 (0 : Int32) ∧ (([] : List MV) = [] ∧ mret (some .int) (sp_lwev t p x o9 F X kz Q) [.inr (.inr (some t)), .inl p, .inl x, .inr (.inr (some o9))] S (some (.inl (0 : Int32))) (rJ S_5 o9 (vp_updL (eJ S_5 o9) (0 : Int32).toNatClampNeg x_6.toInt64)) (0 + 2) (0 + 12)))) ∧ ((np 4 p ∨ (x ≠ -1 ∧ np 256 x)) → (∀ e_8, (([] : List MV) = [] ∧ mret (some .int) (sp_lwev t p x o9 F X kz Q) [.inr (.inr (some t)), .inl p, .inl x, .inr (.inr (some o9))] S (some (.inl (1 : Int32))) S (0 + 2) (0 + 12)))))))
    obtain ⟨hp, ho⟩ := hp
    exact ⟨rfl, F, X, kz, Q, hp, Nat.le_of_eq (Nat.zero_add _), Nat.le_of_eq (Nat.zero_add _), fun v9 S9 h => have w9 : isO S9 18 o9 ∧ inR S9 o9 0 := (by obtain ⟨e, -⟩ := h; rw [e]; exact ho.s); ⟨w9.1, w9.2, rfl, trivial, ⟨_, rfl, Or.inl ⟨rfl, v9, S9, h, rfl⟩⟩, Nat.le_of_eq (Nat.zero_add _), Nat.le_of_eq (Nat.zero_add _)⟩, fun h e9 => ⟨rfl, trivial, ⟨_, rfl, Or.inr (⟨rfl, rfl, h⟩)⟩, Nat.le_of_eq (Nat.zero_add _), Nat.le_of_eq (Nat.zero_add _)⟩⟩
  · exact fun _ _ _ _ _ h => by cases h
theorem u_lwev (l : Launch) (hlt : l.stackTraces = false) : UsX l yL_events (Cond.codeWith yL_events cL_events 5 (some .int) [(0, 10, 13, 19)]) (some .int) 9 153 99 T_lwev := by
  intro Rc Rs av S cs sl K Kx h
  unfold T_lwev at h
  split at h
  · rename_i t_o p x o9_o
    obtain ⟨t, rfl, h_1⟩ := pa_of h
    obtain ⟨o9, rfl, h_2⟩ := pa_of h_1
    obtain ⟨F, X, kz, Q, hp, hc, hs, hk⟩ := h_2
    refine ⟨(sp_lwev t p x o9 F X kz Q), c_lwev l hlt t p x o9 F X kz Q, fun _ _ _ => trivial, ⟨rfl, hp⟩, hc, hs, fun v9 S' h8 => by
      obtain ⟨v8, h7, h8⟩ := h8
      cases h7
      exact hk _ _ h8, fun _ _ q => q.elim⟩
  · exact h.elim
def T_lwfd : TR := fun Rc Rs av S cs sl K _Kx => match av with
  | [.inr (.inr t_o), .inl a, .inl b, .inl c, .inl d, .inl e] => pa t_o fun t => (∃ (F : Nat → Nat × Nat) (X : Nat → GX) (kz : Nat → Nat) (Q : Ab), (WT S F t X kz Q) ∧ cs + (addNC 20 (kz 0) Q.tp.length + 1) ≤ Rc ∧ sl + (addNS 20 (kz 0) Q.tp.length + 6) ≤ Rs ∧ (∀ (v : Int32) (S' : MM), ((v = 0 ∧ (Q.tp.length + 20 ≤ 32768 ∧ wtQ S S' F t X (upF kz 0 (capN 20 (kz 0) Q.tp.length)) (Q.sTp (bPuts Q.tp (feedB a b c d e))))) ∨ (v = 1 ∧ S' = S ∧ (32768 < Q.tp.length + 20))) → K (some (.inl v)) S' (cs + (addNC 20 (kz 0) Q.tp.length + 1)) (sl + (addNS 20 (kz 0) Q.tp.length + 6))))
  | _ => False
def sp_lwfd (t : Nat) (a : Int32) (b : Int32) (c : Int32) (d : Int32) (e : Int32) (F : Nat → Nat × Nat) (X : Nat → GX) (kz : Nat → Nat) (Q : Ab) : Sp := (fun av S => av = [.inr (.inr (some t)), .inl a, .inl b, .inl c, .inl d, .inl e] ∧ (WT S F t X kz Q), fun _ S => addNC 20 (kz 0) Q.tp.length + 1, fun _ S => addNS 20 (kz 0) Q.tp.length + 6, fun _ S rv S' => ∃ v, rv = (some (.inl v)) ∧ ((v = 0 ∧ (Q.tp.length + 20 ≤ 32768 ∧ wtQ S S' F t X (upF kz 0 (capN 20 (kz 0) Q.tp.length)) (Q.sTp (bPuts Q.tp (feedB a b c d e))))) ∨ (v = 1 ∧ S' = S ∧ (32768 < Q.tp.length + 20))), fun _ _ _ _ => False)
def tL_feed : CD := [(0, .aload_n 0), (1, .iload_n 1), (2, .iload_n 2), (3, .iload_n 3), (4, .iload 4), (6, .iload 5), (8, .invokevirtual 7), (11, .goto 7), (14, .astore 6), (16, .iconst 1), (17, .ireturn), (18, .iconst 0), (19, .ireturn)]
set_option maxRecDepth 100000 in
theorem kL_feed : chk cL_feed tL_feed = true := by decide +kernel
theorem vL_feed_7 : ∀ w ∈ ([.methodLink RL 7 yX11_feed, .instanceMethod yX11_feed, .selects yX11_feed.cls yX11_feed yX11_feed, .initialized yX11_feed.cls, .code yX11_feed cX11_feed 6 none] : List Cond), w ∈ lw_good := List.forall_mem_cons.mpr ⟨mgd 698 (by decide +kernel) (by decide +kernel), List.forall_mem_cons.mpr ⟨mgd 699 (by decide +kernel) (by decide +kernel), List.forall_mem_cons.mpr ⟨mgd 700 (by decide +kernel) (by decide +kernel), List.forall_mem_cons.mpr ⟨mgd 121 (by decide +kernel) (by decide +kernel), List.forall_mem_cons.mpr ⟨mgd 701 (by decide +kernel) (by decide +kernel), fun _ h => absurd h List.not_mem_nil⟩⟩⟩⟩⟩
set_option maxRecDepth 100000 in
set_option maxHeartbeats 2000000 in
theorem c_lwfd (l : Launch) (hlt : l.stackTraces = false) : ∀ (t : Nat) (a : Int32) (b : Int32) (c : Int32) (d : Int32) (e : Int32) (F : Nat → Nat × Nat) (X : Nat → GX) (kz : Nat → Nat) (Q : Ab), CtX l yL_feed (Cond.codeWith yL_feed cL_feed 7 (some .int) [(0, 11, 14, 13)]) (some .int) 7 121 (sp_lwfd t a b c d e F X kz Q) := by
  intro t a b c d e F X kz Q
  refine CtX.ofH hlt (fLw, nLw, aLw, iLw, lLw, [(7, 0, 6, 0, T_wfd)], qLw, gLw, []) false tL_feed [((0, 11, 14, 13), 0)] (fun _ _ _ => none) (by decide) (by decide) kL_feed ⟨_, _, rfl⟩ fLw_ok nLw_ok aLw_ok iLw_ok lLw_ok (fun p e R s m args below meth c Q D cy z r A C hR1 hR2 => List.forall_mem_cons.mpr ⟨cOK_use (fun _ _ _ _ _ _ _ _ h => let ⟨sp, h1, h2, h3⟩ := u_wfd l hlt _ _ _ _ _ _ _ _ h; ⟨sp, cOKx_V C h1 vL_feed_7 ⟨by decide, by decide, by decide +kernel⟩ ⟨by rw [hR1]; decide, by rw [hR2]; decide⟩ (k := 12) (T := TX11) (N := 15) rfl (by decide) h2, h3⟩), fun _ h => absurd h List.not_mem_nil⟩) qLw_ok gLw_ok rfl (List.forall_mem_cons.mpr ⟨⟨by decide, mgd 697 (by decide +kernel) (by decide +kernel)⟩, fun _ h => absurd h List.not_mem_nil⟩) (fun _ _ _ _ z => z) ?_ ?_
  · rintro _ S ⟨rfl, hp⟩
    refine ⟨Nat.le_of_ble_eq_true rfl, 300, ?_⟩
    show (0 = 0 ∧ (∃ (F_1 : Nat → Nat × Nat) (X_2 : Nat → GX) (kz_3 : Nat → Nat) (Q_4 : Ab), (WT S F_1 t X_2 kz_3 Q_4) ∧ 0 + (addNC 20 (kz_3 0) Q_4.tp.length + 1) ≤ addNC 20 (kz 0) Q.tp.length + 1 ∧ 0 + (addNS 20 (kz_3 0) Q_4.tp.length + 6) ≤ addNS 20 (kz 0) Q.tp.length + 6 ∧ ((∀ (S_5 : MM), (Q_4.tp.length + 20 ≤ 32768 ∧ wtQ S S_5 F_1 t X_2 (upF kz_3 0 (capN 20 (kz_3 0) Q_4.tp.length)) (Q_4.sTp (bPuts Q_4.tp (feedB a b c d e)))) → (([] : List MV) = [] ∧ mret (some .int) (sp_lwfd t a b c d e F X kz Q) [.inr (.inr (some t)), .inl a, .inl b, .inl c, .inl d, .inl e] S (some (.inl (0 : Int32))) S_5 (0 + (addNC 20 (kz_3 0) Q_4.tp.length + 1)) (0 + (addNS 20 (kz_3 0) Q_4.tp.length + 6)))) ∧ ((32768 < Q_4.tp.length + 20) → (∀ e_7, (([] : List MV) = [] ∧ mret (some .int) (sp_lwfd t a b c d e F X kz Q) [.inr (.inr (some t)), .inl a, .inl b, .inl c, .inl d, .inl e] S (some (.inl (1 : Int32))) S (0 + (addNC 20 (kz_3 0) Q_4.tp.length + 1)) (0 + (addNS 20 (kz_3 0) Q_4.tp.length + 6))))))))
    exact ⟨rfl, F, X, kz, Q, hp, Nat.le_of_eq (Nat.zero_add _), Nat.le_of_eq (Nat.zero_add _), fun S9 h => ⟨rfl, trivial, ⟨_, rfl, Or.inl ⟨rfl, h⟩⟩, Nat.le_of_eq (Nat.zero_add _), Nat.le_of_eq (Nat.zero_add _)⟩, fun h e9 => ⟨rfl, trivial, ⟨_, rfl, Or.inr (⟨rfl, rfl, h⟩)⟩, Nat.le_of_eq (Nat.zero_add _), Nat.le_of_eq (Nat.zero_add _)⟩⟩
  · exact fun _ _ _ _ _ h => by cases h
theorem u_lwfd (l : Launch) (hlt : l.stackTraces = false) : UsX l yL_feed (Cond.codeWith yL_feed cL_feed 7 (some .int) [(0, 11, 14, 13)]) (some .int) 7 121 99 T_lwfd := by
  intro Rc Rs av S cs sl K Kx h
  unfold T_lwfd at h
  split at h
  · rename_i t_o a b c d e
    obtain ⟨t, rfl, h_1⟩ := pa_of h
    obtain ⟨F, X, kz, Q, hp, hc, hs, hk⟩ := h_1
    refine ⟨(sp_lwfd t a b c d e F X kz Q), c_lwfd l hlt t a b c d e F X kz Q, fun _ _ _ => trivial, ⟨rfl, hp⟩, hc, hs, fun v9 S' h8 => by
      obtain ⟨v8, h7, h8⟩ := h8
      cases h7
      exact hk _ _ h8, fun _ _ q => q.elim⟩
  · exact h.elim
def T_lwfi : TR := fun Rc Rs av S cs sl K _Kx => match av with
  | [.inr (.inr t_o), .inl p, .inl x, .inr (.inr o9_o)] => pa t_o fun t => (pa o9_o fun o9 => (∃ (F : Nat → Nat × Nat) (X : Nat → GX) (kz : Nat → Nat) (Q : Ab), ((WT S F t X kz Q) ∧ lwO S F o9) ∧ cs + 3 ≤ Rc ∧ sl + 18 ≤ Rs ∧ (∀ (v : Int32) (S' : MM), ((v = 0 ∧ ∃ (v0 : Int32) (S0 : MM), (∃ n i sy, n < 4 ∧ p = nI n ∧ i ≤ visN (Q.G n) (Q.T n) ∧ x = nI i ∧ syms Q.tp = some sy ∧ v0 = findT Q.tp i (txtG (Q.G n) (Q.T n)) ∧ wtQ S S0 F t X kz (Q.sTp [])) ∧ S' = loJ S0 o9 v0.toInt64) ∨ (v = 1 ∧ S' = S ∧ (np 4 p ∨ ∃ n, n < 4 ∧ p = nI n ∧ np (visN (Q.G n) (Q.T n) + 1) x)) ∨ (v = 2 ∧ (∃ n i, n < 4 ∧ p = nI n ∧ i ≤ visN (Q.G n) (Q.T n) ∧ x = nI i ∧ syms Q.tp = none ∧ wtQ S S' F t X kz (Q.sTp [])))) → K (some (.inl v)) S' (cs + 3) (sl + 18))))
  | _ => False
def sp_lwfi (t : Nat) (p : Int32) (x : Int32) (o9 : Nat) (F : Nat → Nat × Nat) (X : Nat → GX) (kz : Nat → Nat) (Q : Ab) : Sp := (fun av S => av = [.inr (.inr (some t)), .inl p, .inl x, .inr (.inr (some o9))] ∧ ((WT S F t X kz Q) ∧ lwO S F o9), fun _ S => 3, fun _ S => 18, fun _ S rv S' => ∃ v, rv = (some (.inl v)) ∧ ((v = 0 ∧ ∃ (v0 : Int32) (S0 : MM), (∃ n i sy, n < 4 ∧ p = nI n ∧ i ≤ visN (Q.G n) (Q.T n) ∧ x = nI i ∧ syms Q.tp = some sy ∧ v0 = findT Q.tp i (txtG (Q.G n) (Q.T n)) ∧ wtQ S S0 F t X kz (Q.sTp [])) ∧ S' = loJ S0 o9 v0.toInt64) ∨ (v = 1 ∧ S' = S ∧ (np 4 p ∨ ∃ n, n < 4 ∧ p = nI n ∧ np (visN (Q.G n) (Q.T n) + 1) x)) ∨ (v = 2 ∧ (∃ n i, n < 4 ∧ p = nI n ∧ i ≤ visN (Q.G n) (Q.T n) ∧ x = nI i ∧ syms Q.tp = none ∧ wtQ S S' F t X kz (Q.sTp [])))), fun _ _ _ _ => False)
def tL_find : CD := [(0, .aload_n 3), (1, .iconst 0), (2, .aload_n 0), (3, .iload_n 1), (4, .iload_n 2), (5, .invokevirtual 45), (8, .i2l), (9, .lastore), (10, .goto 11), (13, .astore 4), (15, .iconst 1), (16, .ireturn), (17, .astore 4), (19, .iconst 2), (20, .ireturn), (21, .iconst 0), (22, .ireturn)]
set_option maxRecDepth 100000 in
theorem kL_find : chk cL_find tL_find = true := by decide +kernel
theorem vL_find_45 : ∀ w ∈ ([.methodLink RL 45 yX11_find, .instanceMethod yX11_find, .selects yX11_find.cls yX11_find yX11_find, .initialized yX11_find.cls, .code yX11_find cX11_find 6 (some .int)] : List Cond), w ∈ lw_good := List.forall_mem_cons.mpr ⟨mgd 1177 (by decide +kernel) (by decide +kernel), List.forall_mem_cons.mpr ⟨mgd 1178 (by decide +kernel) (by decide +kernel), List.forall_mem_cons.mpr ⟨mgd 1179 (by decide +kernel) (by decide +kernel), List.forall_mem_cons.mpr ⟨mgd 121 (by decide +kernel) (by decide +kernel), List.forall_mem_cons.mpr ⟨mgd 1180 (by decide +kernel) (by decide +kernel), fun _ h => absurd h List.not_mem_nil⟩⟩⟩⟩⟩
set_option maxRecDepth 100000 in
set_option maxHeartbeats 2000000 in
theorem c_lwfi (l : Launch) (hlt : l.stackTraces = false) : ∀ (t : Nat) (p : Int32) (x : Int32) (o9 : Nat) (F : Nat → Nat × Nat) (X : Nat → GX) (kz : Nat → Nat) (Q : Ab), CtX l yL_find (Cond.codeWith yL_find cL_find 5 (some .int) [(0, 10, 13, 19), (0, 10, 17, 25)]) (some .int) 9 155 (sp_lwfi t p x o9 F X kz Q) := by
  intro t p x o9 F X kz Q
  refine CtX.ofH hlt (fLw, nLw, aLw, iLw, lLw, [(45, 0, 3, 1, T_wfi)], qLw, gLw, []) false tL_find [((0, 10, 13, 19), 1), ((0, 10, 17, 25), 3)] (fun _ _ _ => none) (by decide) (by decide) kL_find ⟨_, _, rfl⟩ fLw_ok nLw_ok aLw_ok iLw_ok lLw_ok (fun p e R s m args below meth c Q D cy z r A C hR1 hR2 => List.forall_mem_cons.mpr ⟨cOK_use (fun _ _ _ _ _ _ _ _ h => let ⟨sp, h1, h2, h3⟩ := u_wfi l hlt _ _ _ _ _ _ _ _ h; ⟨sp, cOKx_V C h1 vL_find_45 ⟨by decide, by decide, by decide +kernel⟩ ⟨by rw [hR1]; decide, by rw [hR2]; decide⟩ (k := 12) (T := TX11) (N := 15) rfl (by decide) h2, h3⟩), fun _ h => absurd h List.not_mem_nil⟩) qLw_ok gLw_ok rfl (List.forall_mem_cons.mpr ⟨⟨by decide, mgd 796 (by decide +kernel) (by decide +kernel)⟩, List.forall_mem_cons.mpr ⟨⟨by decide, mgd 822 (by decide +kernel) (by decide +kernel)⟩, fun _ h => absurd h List.not_mem_nil⟩⟩) (fun _ _ _ _ z => z) ?_ ?_
  · rintro _ S ⟨rfl, hp⟩
    refine ⟨Nat.le_of_ble_eq_true rfl, 300, ?_⟩
    show (0 = 0 ∧ (∃ (F_1 : Nat → Nat × Nat) (X_2 : Nat → GX) (kz_3 : Nat → Nat) (Q_4 : Ab), (WT S F_1 t X_2 kz_3 Q_4) ∧ 0 + 3 ≤ 3 ∧ 0 + 18 ≤ 18 ∧ ((∀ (x_6 : Int32) (S_5 : MM), (∃ n i sy, n < 4 ∧ p = nI n ∧ i ≤ visN (Q_4.G n) (Q_4.T n) ∧ x = nI i ∧ syms Q_4.tp = some sy ∧ x_6 = findT Q_4.tp i (txtG (Q_4.G n) (Q_4.T n)) ∧ wtQ S S_5 F_1 t X_2 kz_3 (Q_4.sTp [])) → (isO S_5 18 o9 ∧ inR S_5 o9 (0 : Int32) ∧ (([] : List MV) = [] ∧ mret (some .int) (sp_lwfi t p x o9 F X kz Q) [.inr (.inr (some t)), .inl p, .inl x, .inr (.inr (some o9))] S (some (.inl (0 : Int32))) (rJ S_5 o9 (vp_updL (eJ S_5 o9) (0 : Int32).toNatClampNeg x_6.toInt64)) (0 + 3) (0 + 18)))) ∧ ((np 4 p ∨ ∃ n, n < 4 ∧ p = nI n ∧ np (visN (Q_4.G n) (Q_4.T n) + 1) x) → (∀ e_8, (([] : List MV) = [] ∧ mret (some .int) (sp_lwfi t p x o9 F X kz Q) [.inr (.inr (some t)), .inl p, .inl x, .inr (.inr (some o9))] S (some (.inl (1 : Int32))) S (0 + 3) (0 + 18)))) ∧ (∀ (S_9 : MM), (∃ n i, n < 4 ∧ p = nI n ∧ i ≤ visN (Q_4.G n) (Q_4.T n) ∧ x = nI i ∧ syms Q_4.tp = none ∧ wtQ S S_9 F_1 t X_2 kz_3 (Q_4.sTp [])) → (∀ e_10, (([] : List MV) = [] ∧ mret (some .int) (sp_lwfi t p x o9 F X kz Q) [.inr (.inr (some t)), .inl p, .inl x, .inr (.inr (some o9))] S (some (.inl (2 : Int32))) S_9 (0 + 3) (0 + 18)))))))
    obtain ⟨hp, ho⟩ := hp
    exact ⟨rfl, F, X, kz, Q, hp, Nat.le_of_eq (Nat.zero_add _), Nat.le_of_eq (Nat.zero_add _), fun v9 S9 h => have w9 : isO S9 18 o9 ∧ inR S9 o9 0 := (by obtain ⟨_, _, _, _, _, _, _, _, _, gK⟩ := h; exact gK.o ho); ⟨w9.1, w9.2, rfl, trivial, ⟨_, rfl, Or.inl ⟨rfl, v9, S9, h, rfl⟩⟩, Nat.le_of_eq (Nat.zero_add _), Nat.le_of_eq (Nat.zero_add _)⟩, fun h e9 => ⟨rfl, trivial, ⟨_, rfl, Or.inr (Or.inl ⟨rfl, rfl, h⟩)⟩, Nat.le_of_eq (Nat.zero_add _), Nat.le_of_eq (Nat.zero_add _)⟩, fun S9 h e9 => ⟨rfl, trivial, ⟨_, rfl, Or.inr (Or.inr (⟨rfl, h⟩))⟩, Nat.le_of_eq (Nat.zero_add _), Nat.le_of_eq (Nat.zero_add _)⟩⟩
  · exact fun _ _ _ _ _ h => by cases h
theorem u_lwfi (l : Launch) (hlt : l.stackTraces = false) : UsX l yL_find (Cond.codeWith yL_find cL_find 5 (some .int) [(0, 10, 13, 19), (0, 10, 17, 25)]) (some .int) 9 155 99 T_lwfi := by
  intro Rc Rs av S cs sl K Kx h
  unfold T_lwfi at h
  split at h
  · rename_i t_o p x o9_o
    obtain ⟨t, rfl, h_1⟩ := pa_of h
    obtain ⟨o9, rfl, h_2⟩ := pa_of h_1
    obtain ⟨F, X, kz, Q, hp, hc, hs, hk⟩ := h_2
    refine ⟨(sp_lwfi t p x o9 F X kz Q), c_lwfi l hlt t p x o9 F X kz Q, fun _ _ _ => trivial, ⟨rfl, hp⟩, hc, hs, fun v9 S' h8 => by
      obtain ⟨v8, h7, h8⟩ := h8
      cases h7
      exact hk _ _ h8, fun _ _ q => q.elim⟩
  · exact h.elim
