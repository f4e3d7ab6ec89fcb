/-! ===== The reference: mark0, feed0 ===== -/
theorem sh_fit {x : Nat} (h : x ≤ 8192) : fits .short (.int (nI x)) = true := by
  show (decide (-32768 ≤ nI x) && decide (nI x ≤ 32767)) = true
  have h1 : ¬ nI x < 0 := nI_pos (by omega)
  have h2 : ¬ (32767 : Int32) < nI x := fun q => by
    have := (nI_ltI (a := 32767) (b := x) (by decide) (by omega)).1 q
    omega
  rw [Bool.and_eq_true, decide_eq_true_iff, decide_eq_true_iff]
  exact ⟨Int32.le_trans (by decide) (Int32.not_lt.1 h1), Int32.not_lt.1 h2⟩
def mkR (R : Rb) (i n : Nat) : Rb := (R.Q.sMk (upF R.Q.mp i (some n)) (upF R.Q.ms i (R.Q.G n).n), R.C, upF R.M i (R.Q.G n).cn)
theorem MD.mrk {S S' : MM} {F : Nat → Nat × Nat} {t : Nat} {z : Nat → Nat} {Y : Nat → Nat → Nat} {R : Rb} {kz : Nat → Nat} (h : MD S F t z Y R kz) {i n : Nat} (hi : i < 8) (hn : n < 4) (hk : Keep (fun c => c = t ∨ ∃ k, k ∈ [5, 6, 15] ∧ c = z k) S S') (h5 : eI S' (z 5) = upd (eI S (z 5)) i (nI n)) (h6 : ∀ k, eI S' (z 6) k = if 16 * i ≤ k ∧ k < 16 * i + 16 then nI ((R.Q.G n).cn (k - 16 * i)) else eI S (z 6) k) (hI : ∀ f, mI S' f t = mI S f t) (hR : ∀ f, mR S' f t = mR S f t) : MD S' F t z Y (mkR R i n) kz := by
  have q := h.wr1 (S' := S') [5, 6, 15] 5 (by decide) (by decide) hk (fun f _ _ => hI f) hR
  intro j
  match j with
  | 5 =>
    intro b hb
    show eI S' (z 5) b = stI (upF R.Q.mp i (some n) b) ∧ ∀ p, upF R.Q.mp i (some n) b = some p → p < 4 ∧ ∀ s, s < 16 → eI S' (z 6) (16 * b + s) = nI (upF R.M i (R.Q.G n).cn b s) ∧ upF R.M i (R.Q.G n).cn b s ≤ (R.Q.G p).cn s
    rw [h5, upd]
    by_cases c : b = i
    · subst c
      rw [if_pos rfl, upF_s, upF_s]
      refine ⟨rfl, fun p e => ?_⟩
      cases e
      refine ⟨hn, fun s hs => ⟨?_, Nat.le_refl _⟩⟩
      rw [h6, if_pos ⟨by omega, by omega⟩, Nat.add_sub_cancel_left]
    · rw [if_neg c, upF_o c, upF_o c]
      obtain ⟨a1, a2⟩ := h 5 b hb
      refine ⟨a1, fun p e => ⟨(a2 p e).1, fun s hs => ?_⟩⟩
      rw [h6, if_neg (fun w => by omega)]
      exact (a2 p e).2 s hs
  | 0 => exact q 0 (by decide)
  | 1 => exact q 1 (by decide)
  | 2 => exact q 2 (by decide)
  | 3 => exact q 3 (by decide)
  | 4 => exact q 4 (by decide)
  | 6 => exact q 6 (by decide)
  | 7 => exact q 7 (by decide)
  | 8 => exact q 8 (by decide)
  | 9 => exact q 9 (by decide)
  | 10 => exact q 10 (by decide)
  | 11 => exact q 11 (by decide)
  | 12 => exact q 12 (by decide)
  | n + 13 => trivial
def T_rmk0 : TR := fun Rc Rs av S cs sl K Kx => match av with
  | [.inr (.inr t_o), .inl s, .inl p] => pa t_o fun t => (∃ (F : Nat → Nat × Nat) (z : Nat → Nat) (Y : Nat → Nat → Nat) (R : Rb) (kz : Nat → Nat), (MD S F t z Y R kz) ∧ cs + 2 ≤ Rc ∧ sl + 12 ≤ Rs ∧ ((∀ (v : Int32) (S' : MM), (∃ i n, i < 8 ∧ s = nI i ∧ n < 4 ∧ p = nI n ∧ v = nI (R.Q.G n).n ∧ mdQ S S' F t (mkR R i n) kz) → K (some (.inl v)) S' (cs + 2) (sl + 12)) ∧ ((np 8 s ∨ np 4 p) → Kx 1 S (cs + 2) (sl + 12))))
  | _ => False
def sp_rmk0 (t : Nat) (s : Int32) (p : Int32) (F : Nat → Nat × Nat) (z : Nat → Nat) (Y : Nat → Nat → Nat) (R : Rb) (kz : Nat → Nat) : Sp := (fun av S => av = [.inr (.inr (some t)), .inl s, .inl p] ∧ (MD S F t z Y R kz), fun _ S => 2, fun _ S => 12, fun _ S rv S' => ∃ v, rv = (some (.inl v)) ∧ (∃ i n, i < 8 ∧ s = nI i ∧ n < 4 ∧ p = nI n ∧ v = nI (R.Q.G n).n ∧ mdQ S S' F t (mkR R i n) kz), fun _ S E S' => (E = 1 ∧ (np 8 s ∨ np 4 p) ∧ S' = S))
def tX14_mark0 : CD := [(0, .iload_n 1), (1, .iconst 0), (2, .bipush 7), (4, .invokestatic 144), (7, .invokestatic 148), (10, .aload_n 0), (11, .iload_n 2), (12, .invokevirtual 203), (15, .astore_n 3), (16, .aload_n 0), (17, .getfield 29), (20, .iload_n 1), (21, .iload_n 2), (22, .iastore), (23, .aload_n 3), (24, .aload_n 0), (25, .getfield 48), (28, .invokevirtual 182), (31, .aload_n 0), (32, .getfield 48), (35, .iconst 0), (36, .aload_n 0), (37, .getfield 32), (40, .bipush 16), (42, .iload_n 1), (43, .imul), (44, .bipush 16), (46, .invokestatic 288), (49, .aload_n 3), (50, .getfield 173), (53, .ireturn)]
set_option maxRecDepth 100000 in
theorem kX14_mark0 : chk cX14_mark0 tX14_mark0 = true := by decide +kernel
theorem vX14_mark0_144 : ∀ w ∈ ([.methodLink RX14 144 yX14_in, .static yX14_in, .initialized yX14_in.cls, .code yX14_in cX14_in 3 (some .boolean)] : List Cond), w ∈ lw_good := List.forall_mem_cons.mpr ⟨mgd 1930 (by decide +kernel) (by decide +kernel), List.forall_mem_cons.mpr ⟨mgd 1931 (by decide +kernel) (by decide +kernel), List.forall_mem_cons.mpr ⟨mgd 136 (by decide +kernel) (by decide +kernel), List.forall_mem_cons.mpr ⟨mgd 1932 (by decide +kernel) (by decide +kernel), fun _ h => absurd h List.not_mem_nil⟩⟩⟩⟩
theorem vX14_mark0_148 : ∀ w ∈ ([.methodLink RX14 148 yX14_check, .static yX14_check, .initialized yX14_check.cls, .code yX14_check cX14_check 1 none] : List Cond), w ∈ lw_good := List.forall_mem_cons.mpr ⟨mgd 1933 (by decide +kernel) (by decide +kernel), List.forall_mem_cons.mpr ⟨mgd 1934 (by decide +kernel) (by decide +kernel), List.forall_mem_cons.mpr ⟨mgd 136 (by decide +kernel) (by decide +kernel), List.forall_mem_cons.mpr ⟨mgd 1935 (by decide +kernel) (by decide +kernel), fun _ h => absurd h List.not_mem_nil⟩⟩⟩⟩
theorem vX14_mark0_203 : ∀ w ∈ ([.methodLink RX14 203 yX14_graph, .instanceMethod yX14_graph, .selects yX14_graph.cls yX14_graph yX14_graph, .initialized yX14_graph.cls, .code yX14_graph cX14_graph 2 (some (.object "WeaveTextModel$Graph"))] : List Cond), w ∈ lw_good := List.forall_mem_cons.mpr ⟨mgd 1946 (by decide +kernel) (by decide +kernel), List.forall_mem_cons.mpr ⟨mgd 1948 (by decide +kernel) (by decide +kernel), List.forall_mem_cons.mpr ⟨mgd 52 (by decide +kernel) (by decide +kernel), List.forall_mem_cons.mpr ⟨mgd 136 (by decide +kernel) (by decide +kernel), List.forall_mem_cons.mpr ⟨mgd 1949 (by decide +kernel) (by decide +kernel), fun _ h => absurd h List.not_mem_nil⟩⟩⟩⟩⟩
theorem vX14_mark0_182 : ∀ w ∈ ([.methodLink RX14 182 yX12_all, .instanceMethod yX12_all, .selects yX12_all.cls yX12_all yX12_all, .initialized yX12_all.cls, .code yX12_all cX12_all 3 none] : List Cond), w ∈ lw_good := List.forall_mem_cons.mpr ⟨mgd 1988 (by decide +kernel) (by decide +kernel), List.forall_mem_cons.mpr ⟨mgd 1989 (by decide +kernel) (by decide +kernel), List.forall_mem_cons.mpr ⟨mgd 1990 (by decide +kernel) (by decide +kernel), List.forall_mem_cons.mpr ⟨mgd 138 (by decide +kernel) (by decide +kernel), List.forall_mem_cons.mpr ⟨mgd 1991 (by decide +kernel) (by decide +kernel), fun _ h => absurd h List.not_mem_nil⟩⟩⟩⟩⟩
theorem vX14_mark0_288 : ∀ w ∈ ([.methodLink RX14 288 arraycopyName, .native arraycopyName, .static arraycopyName, .initialized "java/lang/System"] : List Cond), w ∈ lw_good := List.forall_mem_cons.mpr ⟨mgd 2183 (by decide +kernel) (by decide +kernel), List.forall_mem_cons.mpr ⟨mgd 792 (by decide +kernel) (by decide +kernel), List.forall_mem_cons.mpr ⟨mgd 791 (by decide +kernel) (by decide +kernel), List.forall_mem_cons.mpr ⟨mgd 144 (by decide +kernel) (by decide +kernel), fun _ h => absurd h List.not_mem_nil⟩⟩⟩⟩
set_option maxRecDepth 100000 in
set_option maxHeartbeats 2000000 in
theorem c_rmk0 (l : Launch) (hlt : l.stackTraces = false) : ∀ (t : Nat) (s : Int32) (p : Int32) (F : Nat → Nat × Nat) (z : Nat → Nat) (Y : Nat → Nat → Nat) (R : Rb) (kz : Nat → Nat), CtX l yX14_mark0 (Cond.code yX14_mark0 cX14_mark0 4 (some .int)) (some .int) 8 130 (sp_rmk0 t s p F z Y R kz) := by
  intro t s p F z Y R kz
  refine CtX.of hlt (fX14, nX14, aX14, iX14, lX14, [(144, 2, 3, 1, T_rin), (148, 2, 1, 0, T_rck), (203, 0, 2, 3, T_rgr), (182, 0, 2, 0, T_rall), (288, 2, 5, 0, T_acopy)], qX14, gX14, []) false tX14_mark0 (fun _ _ _ => none) (by decide) (by decide) kX14_mark0 ⟨_, _, rfl⟩ fX14_ok nX14_ok aX14_ok iX14_ok lX14_ok (fun p e R s m args below meth c Q D cy z r A C hR1 hR2 => List.forall_mem_cons.mpr ⟨cOK_use (fun _ _ _ _ _ _ _ _ h => let ⟨sp, h1, _, h3⟩ := u_rin l _ _ _ _ _ _ _ _ h; ⟨sp, cOK_S C h1 vX14_mark0_144 ⟨by decide, by decide, by decide +kernel⟩ ⟨by rw [hR1]; decide, by rw [hR2]; decide⟩, h3⟩), List.forall_mem_cons.mpr ⟨cOK_use (fun _ _ _ _ _ _ _ _ h => let ⟨sp, h1, _, h3⟩ := u_rck l hlt _ _ _ _ _ _ _ _ h; ⟨sp, cOKx_S C h1 vX14_mark0_148 ⟨by decide, by decide, by decide +kernel⟩ ⟨by rw [hR1]; decide, by rw [hR2]; decide⟩, h3⟩), List.forall_mem_cons.mpr ⟨cOK_use (fun _ _ _ _ _ _ _ _ h => let ⟨sp, h1, h2, h3⟩ := u_rgr l hlt _ _ _ _ _ _ _ _ h; ⟨sp, cOKx_V C h1 vX14_mark0_203 ⟨by decide, by decide, by decide +kernel⟩ ⟨by rw [hR1]; decide, by rw [hR2]; decide⟩ (k := 15) (T := TX14) (N := 52) rfl (by decide) h2, h3⟩), List.forall_mem_cons.mpr ⟨cOK_use (fun _ _ _ _ _ _ _ _ h => let ⟨sp, h1, h2, h3⟩ := u_rall l _ _ _ _ _ _ _ _ h; ⟨sp, cOK_V C h1 vX14_mark0_182 ⟨by decide, by decide, by decide +kernel⟩ ⟨by rw [hR1]; decide, by rw [hR2]; decide⟩ (k := 13) (T := TX12) (N := 27) rfl (by decide) h2, h3⟩), List.forall_mem_cons.mpr ⟨cOK_use (fun _ _ _ _ _ _ _ _ h => ⟨sp_acopy, cOK_acopy C vX14_mark0_288 ⟨by rw [hR1]; decide, by rw [hR2]; decide⟩, T_acopy_ok h⟩), fun _ h => absurd h List.not_mem_nil⟩⟩⟩⟩⟩) qX14_ok gX14_ok (fun _ h => absurd h List.not_mem_nil) ?_ ?_
  · rintro _ S ⟨rfl, hp⟩
    refine ⟨Nat.le_of_ble_eq_true rfl, 300, ?_⟩
    show (2 = 2 ∧ (True ∧ 0 ≤ 2 ∧ 0 ≤ 12 ∧ ((2 = 2 ∧ (((tf ((0 : Int32) ≤ s ∧ s ≤ (7 : Int32))) = 0 ∨ (tf ((0 : Int32) ≤ s ∧ s ≤ (7 : Int32))) = 1) ∧ 0 + 1 ≤ 2 ∧ 0 + 6 ≤ 12 ∧ ((∀ (S_2 : MM), (S_2 = S ∧ (tf ((0 : Int32) ≤ s ∧ s ≤ (7 : Int32))) = 1) → (0 = 0 ∧ (∃ (F_3 : Nat → Nat × Nat) (z_4 : Nat → Nat) (Y_5 : Nat → Nat → Nat) (R_6 : Rb) (kz_7 : Nat → Nat), (MD S_2 F_3 t z_4 Y_5 R_6 kz_7) ∧ 0 + 1 + 1 ≤ 2 ∧ 0 + 6 + 6 ≤ 12 ∧ ((∀ (x_9 : Option Nat) (S_8 : MM), (S_8 = S_2 ∧ ∃ n, n < 4 ∧ p = nI n ∧ x_9 = some (Y_5 n 0)) → (isO S_8 15 t ∧ (pa (mR S_8 1505 t) fun a_10 => isO S_8 17 a_10 ∧ inR S_8 a_10 s ∧ (isO (rI S_8 a_10 (upd (eI S_8 a_10) s.toNatClampNeg p)) 15 t ∧ (0 = 0 ∧ ((pa x_9 fun a_11 => ((pa (mR (rI S_8 a_10 (upd (eI S_8 a_10) s.toNatClampNeg p)) 1515 t) fun a_12 => (∃ (F_13 : Nat → Nat × Nat) (i_14 : Nat) (y_15 : Nat → Nat) (G_16 : Gr) (T_17 : Tr), (a_11 = y_15 0 ∧ RG (rI S_8 a_10 (upd (eI S_8 a_10) s.toNatClampNeg p)) F_13 i_14 y_15 G_16 T_17 ∧ isO (rI S_8 a_10 (upd (eI S_8 a_10) s.toNatClampNeg p)) 19 a_12 ∧ mN (rI S_8 a_10 (upd (eI S_8 a_10) s.toNatClampNeg p)) a_12 = 16 ∧ (F_13 a_12).1 ≠ i_14) ∧ 0 + 1 + 1 ≤ 2 ∧ 0 + 6 + 6 ≤ 12 ∧ (∀ (S_18 : MM), (StR S_18 a_12 0 G_16.cn ∧ Keep (fun c => c = a_12) (rI S_8 a_10 (upd (eI S_8 a_10) s.toNatClampNeg p)) S_18) → (isO S_18 15 t ∧ (isO S_18 15 t ∧ (2 = 2 ∧ ((pa (mR S_18 1515 t) fun a_19 => ((pa (mR S_18 1506 t) fun a_20 => (∃ (k_21 : Nat), (acP S_18 a_19 a_20 (0 : Int32) ((16 : Int32) * s) (16 : Int32) k_21) ∧ 0 + 1 + 1 ≤ 2 ∧ 0 + 6 + 6 ≤ 12 ∧ ((pa x_9 fun a_23 => isO (rI S_18 a_20 (va_cpy (eI S_18 a_19) (eI S_18 a_20) (0 : Int32).toNatClampNeg ((16 : Int32) * s).toNatClampNeg (16 : Int32).toNatClampNeg)) 13 a_23 ∧ (([] : List MV) = [] ∧ mret (some .int) (sp_rmk0 t s p F z Y R kz) [.inr (.inr (some t)), .inl s, .inl p] S (some (.inl (mI (rI S_18 a_20 (va_cpy (eI S_18 a_19) (eI S_18 a_20) (0 : Int32).toNatClampNeg ((16 : Int32) * s).toNatClampNeg (16 : Int32).toNatClampNeg)) 1300 a_23))) (rI S_18 a_20 (va_cpy (eI S_18 a_19) (eI S_18 a_20) (0 : Int32).toNatClampNeg ((16 : Int32) * s).toNatClampNeg (16 : Int32).toNatClampNeg)) (0 + 1 + 1) (0 + 6 + 6))))))))))))))))))))))) ∧ ((np 4 p) → mthr (sp_rmk0 t s p F z Y R kz) [.inr (.inr (some t)), .inl s, .inl p] S 1 S_2 (0 + 1 + 1) (0 + 6 + 6)))))) ∧ (((tf ((0 : Int32) ≤ s ∧ s ≤ (7 : Int32))) = 0) → mthr (sp_rmk0 t s p F z Y R kz) [.inr (.inr (some t)), .inl s, .inl p] S 1 S (0 + 1) (0 + 6))))))))
    have fail : ∀ {a b : Nat}, (np 8 s ∨ np 4 p) → a ≤ 2 → b ≤ 12 → mthr (sp_rmk0 t s p F z Y R kz) [.inr (.inr (some t)), .inl s, .inl p] S 1 S a b := fun h ha hb => ⟨⟨rfl, h, rfl⟩, ha, hb⟩
    refine ⟨rfl, trivial, by decide, by decide, rfl, tf_b _, by decide, by decide, fun S2 h => ?_, fun h => fail (Or.inl (in_0k (k := 7) (by decide) h)) (by decide) (by decide)⟩
    obtain ⟨e2, h⟩ := h
    have e2 := e2.symm
    subst e2
    obtain ⟨i, hi, rfl⟩ := in_1k (k := 7) (by decide) h
    refine ⟨rfl, F, z, Y, R, kz, hp, by decide, by decide, fun v S8 h => ?_, fun h => fail (Or.inr h) (by decide) (by decide)⟩
    obtain ⟨e2, n, hn, rfl, rfl⟩ := h
    have e2 := e2.symm
    subst e2
    have r5 := hp 1 5 (by decide)
    have r6 := hp 1 6 (by decide)
    have r15 := hp 1 15 (by decide)
    have g := (hp 2 n hn).2.1
    have ci : (nI i).toNatClampNeg = i := nI_clamp (by omega)
    have ne : ∀ {a b}, F (z a) = (100, 100 + a) → F (z b) = (100, 100 + b) → a ≠ b → z a ≠ z b := fun {a b} e1 e2 h9 e => by
      rw [e, e2] at e1
      injection e1 with _ e1
      omega
    have k5 : Keep (fun c => c = z 5) S (rI S (z 5) (upd (eI S (z 5)) (nI i).toNatClampNeg (nI n))) := Keep.rI (P := fun c => c = z 5) Keep.rf rfl
    have g5 : RG (rI S (z 5) (upd (eI S (z 5)) (nI i).toNatClampNeg (nI n))) F (101 + n) (Y n) (R.Q.G n) (R.Q.T n) := g.keep k5 (fun b hb q => by
      rw [q, r5.2.1] at hb
      have hb : 100 = 101 + n := hb
      omega)
    have o15 : (F (z 15)).1 ≠ 101 + n := by rw [r15.2.1]; show 100 ≠ 101 + n; omega
    refine ⟨(hp 0).1, pa_i r5.1 ⟨r5.2.2.1, inRn (N := 8) r5.2.2.2 hi (by decide), (hp 0).1, rfl, pa_i rfl (pa_i r15.1 ⟨F, 101 + n, Y n, R.Q.G n, R.Q.T n, ⟨rfl, g5, r15.2.2.1, r15.2.2.2, o15⟩, by decide, by decide, fun S18 h => ?_⟩)⟩⟩
    obtain ⟨hst, hk⟩ := h
    have K18 : Keep (fun c => c = t ∨ ∃ k, k ∈ [5, 6, 15] ∧ c = z k) S S18 := (k5.mono (fun b _ e => Or.inr ⟨5, by decide, e⟩)).tr (hk.mono (fun b _ e => Or.inr ⟨15, by decide, e⟩))
    have nt : ∀ k, k ∈ mdL → t ≠ z k := fun k hk9 e => by
      have h9 := (hp 0).2
      rw [e, (hp 1 k hk9).2.1] at h9
      injection h9 with _ h9
      omega
    have kt5 := k5.2.1 t (hp 0).1.1 (nt 5 (by decide))
    have kt := hk.2.1 t (k5.1 t (hp 0).1.1).1 (nt 15 (by decide))
    have t18 : isO S18 15 t := hk.isO (hp 0).1
    have m15 : mR S18 1515 t = some (z 15) := (kt.2.1 _).trans r15.1
    have m06 : mR S18 1506 t = some (z 6) := (kt.2.1 _).trans r6.1
    have z65 := ne r6.2.1 r5.2.1 (by decide)
    have z615 := ne r6.2.1 r15.2.1 (by decide)
    have z515 := ne r5.2.1 r15.2.1 (by decide)
    have e6 : eI S18 (z 6) = eI S (z 6) := by
      rw [(hk.2.1 (z 6) (k5.1 _ r6.2.2.1.1).1 z615).2.2.2.1, eI_rI, if_neg z65]
    have e5 : eI S18 (z 5) = upd (eI S (z 5)) i (nI n) := by
      rw [(hk.2.1 (z 5) (k5.1 _ r5.2.2.1.1).1 z515).2.2.2.1, eI_rI, if_pos rfl, ci]
    have o6 : isO S18 19 (z 6) := hk.isO (k5.isO r6.2.2.1)
    have n6 : mN S18 (z 6) = 128 := ((hk.1 _ (k5.1 _ r6.2.2.1.1).1).2.2.trans (k5.1 _ r6.2.2.1.1).2.2).trans r6.2.2.2
    have c16 : ((16 : Int32) * nI i).toNatClampNeg = 16 * i := by rw [nI_mul16]; exact nI_clamp (by omega)
    have g18 : RG S18 F (101 + n) (Y n) (R.Q.G n) (R.Q.T n) := g5.keep hk (fun b hb q => by rw [q] at hb; exact o15 hb)
    refine ⟨t18, t18, rfl, pa_i m15 (pa_i m06 ⟨19, ?_, by decide, by decide, pa_i rfl ⟨?_, rfl, trivial, ⟨_, rfl, i, n, hi, rfl, hn, rfl, ?_, ?_⟩, Nat.le_of_ble_eq_true rfl, Nat.le_of_ble_eq_true rfl⟩⟩)⟩
    · refine ⟨hst.1, o6, Or.inr (Or.inl ⟨rfl, fun j hj => ?_⟩), by decide, by rw [nI_mul16]; exact nI_pos (by omega), by decide, ?_, ?_⟩
      · have hj : j < 16 := hj
        have := hst.2.2.2 j hj
        rw [Nat.zero_add] at this
        show fits .short (.int (eI S18 (z 15) (0 + j))) = true
        rw [Nat.zero_add, this.1]
        exact sh_fit this.2
      · have := hst.2.1
        show 0 + 16 ≤ _
        omega
      · rw [c16, n6]
        show 16 * i + 16 ≤ 128
        omega
    · exact (g18 0).1
    · exact (g18 2).1
    · refine ⟨F, z, Y, hp.mrk hi hn (K18.tr (Keep.rI (P := fun c => c = t ∨ ∃ k, k ∈ [5, 6, 15] ∧ c = z k) Keep.rf (Or.inr ⟨6, by decide, rfl⟩))) ?_ (fun k => ?_) (fun f => (kt.1 f).trans (kt5.1 f)) (fun f => (kt.2.1 f).trans (kt5.2.1 f)), fun _ _ => rfl, ?_, (kt.1 _).trans (kt5.1 _)⟩
      · rw [eI_rI, if_neg (fun e => z65 e.symm)]; exact e5
      · rw [eI_rI, if_pos rfl, c16, e6]
        unfold va_cpy
        show (if 16 * i ≤ k ∧ k < 16 * i + 16 then eI S18 (z 15) (0 + (k - 16 * i)) else eI S (z 6) k) = _
        split
        · next w =>
          have := (hst.2.2.2 (k - 16 * i) (by omega)).1
          exact this
        · rfl
      · refine (K18.tr (Keep.rI (P := fun c => c = t ∨ ∃ k, k ∈ [5, 6, 15] ∧ c = z k) Keep.rf (Or.inr ⟨6, by decide, rfl⟩))).mono (fun b _ q => ?_)
        rcases q with e | ⟨k, k1, e⟩
        · rw [e, (hp 0).2]; exact Nat.le_refl _
        · have : ∀ k, k ∈ [5, 6, 15] → k ∈ mdL := by decide
          rw [e, (hp 1 k (this k k1)).2.1]; exact Nat.le_refl _
  · exact fun _ _ _ _ _ h => by cases h
theorem u_rmk0 (l : Launch) (hlt : l.stackTraces = false) : UsX l yX14_mark0 (Cond.code yX14_mark0 cX14_mark0 4 (some .int)) (some .int) 8 130 15 T_rmk0 := by
  intro Rc Rs av S cs sl K Kx h
  unfold T_rmk0 at h
  split at h
  · rename_i t_o s p
    obtain ⟨t, rfl, h_1⟩ := pa_of h
    obtain ⟨F, z, Y, R, kz, hp, hc, hs, hk, hx0⟩ := h_1
    refine ⟨(sp_rmk0 t s p F z Y R kz), c_rmk0 l hlt t s p F z Y R kz, fun _ _ h9 => ⟨_, _, h9.1, (h9.2 0).1⟩, ⟨rfl, hp⟩, hc, hs, fun v9 S' h8 => by
      obtain ⟨v8, h7, h8⟩ := h8
      cases h7
      exact hk _ _ h8, fun _ _ q => by
      rcases q with ⟨rfl, q⟩
      · obtain ⟨q, rfl⟩ := q
        exact hx0 q⟩
  · exact h.elim
