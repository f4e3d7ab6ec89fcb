/-! ===== The reference: announce0, send0 ===== -/
theorem rsmA_len (G : Gr) : ∀ a, (rsmA G a).length ≤ 10 * a
  | 0 => Nat.le_refl _
  | a + 1 => by
    have := rsmA_len G a
    have v1 := vbN_len 5 a
    have v2 := vbN_len 5 (agE G a).length
    rw [rsmA, List.length_append]
    split
    · rw [List.length_nil]; omega
    · rw [List.length_append]; omega
def rsmW (R : Rb) (n : Nat) : List Nat := rsmB (R.Q.G n) n 256 ++ (List.range 4).map (clB (crB (rsmB (R.Q.G n) n 256) (rsmB (R.Q.G n) n 256).length ^^^ -1))
theorem rsmW_ok (R : Rb) (n : Nat) : rsmW R n ≠ [] ∧ (rsmW R n).length ≤ 32768 := by
  have h1 := rsmA_len (R.Q.G n) 256
  have h2 := vbN_len 5 (R.Q.G n).m
  have h3 : (rsmW R n).length = 3 + (vbN 5 (R.Q.G n).m).length + (rsmA (R.Q.G n) 256).length + 4 := by
    unfold rsmW rsmB
    rw [List.length_append, List.length_append, List.length_append, List.length_map, List.length_range]
    rfl
  refine ⟨fun e => ?_, by omega⟩
  rw [e, List.length_nil] at h3
  omega
theorem mdQ.tr0 {S S1 S' : MM} {F : Nat → Nat × Nat} {t : Nat} {R' : Rb} {kz : Nat → Nat} (hk : Keep (fun c => 100 ≤ (F c).1) S S1) (h51 : mI S1 1551 t = mI S 1551 t) (hQ : mdQ S1 S' F t R' kz) : mdQ S S' F t R' kz := by
  obtain ⟨F', z', Y', h1, h2, h3, h4⟩ := hQ
  exact ⟨F', z', Y', h1, fun b hb => h2 b (hk.1 b hb).1, hk.tr h3, h4.trans h51⟩
theorem in_1s {x : Int32} (h : tf (-1 ≤ x ∧ x ≤ 3) = 1) : ∃ o : Option Nat, x = stI o ∧ ∀ q, o = some q → q < 4 := by
  have hx : -1 ≤ x ∧ x ≤ 3 := Classical.byContradiction (fun w => by rw [tf_f w] at h; exact absurd h (by decide))
  by_cases c : x < 0
  · refine ⟨none, ?_, fun q e => by cases e⟩
    apply Int32.toInt_inj.1
    have h1 := Int32.le_iff_toInt_le.1 hx.1
    have h2 := Int32.lt_iff_toInt_lt.1 c
    have e1 : (-1 : Int32).toInt = -1 := by decide
    have e2 : (0 : Int32).toInt = 0 := by decide
    rw [e1] at h1
    rw [e2] at h2
    show x.toInt = (-1 : Int32).toInt
    rw [e1]; omega
  · obtain ⟨n, hn, rfl⟩ := nI_of c
    refine ⟨some n, rfl, fun q e => ?_⟩
    cases e
    have h2 := hx.2
    rw [← Int32.not_lt, show (3 : Int32) = nI 3 from rfl, nI_ltI (by decide) hn] at h2
    omega
theorem in_0s {x : Int32} (h : tf (-1 ≤ x ∧ x ≤ 3) = 0) : x ≠ -1 ∧ np 4 x := by
  have hx : ¬ (-1 ≤ x ∧ x ≤ 3) := fun w => by rw [tf_t w] at h; exact absurd h (by decide)
  refine ⟨fun e => hx (by rw [e]; decide), fun n hn e => hx ?_⟩
  rw [e]
  rcases (show n = 0 ∨ n = 1 ∨ n = 2 ∨ n = 3 by omega) with e | e | e | e <;> subst e <;> decide
def T_rac0 : TR := fun Rc Rs av S cs sl K Kx => match av with
  | [.inr (.inr t_o), .inl p, .inl s] => pa t_o fun t => (∃ (F : Nat → Nat × Nat) (z : Nat → Nat) (Y : Nat → Nat → Nat) (R : Rb) (kz : Nat → Nat), (MD S F t z Y R kz) ∧ cs + (2 + kpC R s.toNatClampNeg) ≤ Rc ∧ sl + (12 + kpZ R s.toNatClampNeg) ≤ Rs ∧ ((∀ (v : Int32) (S' : MM), (∃ n i, n < 4 ∧ p = nI n ∧ i < 8 ∧ s = nI i ∧ v = nI (rsmW R n).length ∧ mdQ S S' F t (kpR R i (rsmW R n)) kz) → K (some (.inl v)) S' (cs + (2 + kpC R s.toNatClampNeg)) (sl + (12 + kpZ R s.toNatClampNeg))) ∧ ((np 4 p ∨ np 8 s) → Kx 1 S (cs + (2 + kpC R s.toNatClampNeg)) (sl + (12 + kpZ R s.toNatClampNeg)))))
  | _ => False
def sp_rac0 (t : Nat) (p : Int32) (s : Int32) (F : Nat → Nat × Nat) (z : Nat → Nat) (Y : Nat → Nat → Nat) (R : Rb) (kz : Nat → Nat) : Sp := (fun av S => av = [.inr (.inr (some t)), .inl p, .inl s] ∧ (MD S F t z Y R kz), fun _ S => 2 + kpC R s.toNatClampNeg, fun _ S => 12 + kpZ R s.toNatClampNeg, fun _ S rv S' => ∃ v, rv = (some (.inl v)) ∧ (∃ n i, n < 4 ∧ p = nI n ∧ i < 8 ∧ s = nI i ∧ v = nI (rsmW R n).length ∧ mdQ S S' F t (kpR R i (rsmW R n)) kz), fun _ S E S' => (E = 1 ∧ (np 4 p ∨ np 8 s) ∧ S' = S))
def tX14_announce0 : CD := [(0, .aload_n 0), (1, .iload_n 1), (2, .invokevirtual 203), (5, .pop), (6, .iload_n 2), (7, .iconst 0), (8, .bipush 7), (10, .invokestatic 144), (13, .invokestatic 148), (16, .aload_n 0), (17, .iload_n 1), (18, .invokevirtual 384), (21, .aload_n 0), (22, .iload_n 2), (23, .invokevirtual 387), (26, .ireturn)]
set_option maxRecDepth 100000 in
theorem kX14_announce0 : chk cX14_announce0 tX14_announce0 = true := by decide +kernel
theorem vX14_announce0_203 : ∀ w ∈ ([.methodLink RX14 203 yX14_graph, .instanceMethod yX14_graph, .selects yX14_graph.cls yX14_graph yX14_graph, .initialized yX14_graph.cls, .code yX14_graph cX14_graph 2 (some (.object "WeaveTextModel$Graph"))] : List Cond), w ∈ lw_good := List.forall_mem_cons.mpr ⟨mgd 1946 (by decide +kernel) (by decide +kernel), List.forall_mem_cons.mpr ⟨mgd 1948 (by decide +kernel) (by decide +kernel), List.forall_mem_cons.mpr ⟨mgd 52 (by decide +kernel) (by decide +kernel), List.forall_mem_cons.mpr ⟨mgd 136 (by decide +kernel) (by decide +kernel), List.forall_mem_cons.mpr ⟨mgd 1949 (by decide +kernel) (by decide +kernel), fun _ h => absurd h List.not_mem_nil⟩⟩⟩⟩⟩
theorem vX14_announce0_144 : ∀ w ∈ ([.methodLink RX14 144 yX14_in, .static yX14_in, .initialized yX14_in.cls, .code yX14_in cX14_in 3 (some .boolean)] : List Cond), w ∈ lw_good := List.forall_mem_cons.mpr ⟨mgd 1930 (by decide +kernel) (by decide +kernel), List.forall_mem_cons.mpr ⟨mgd 1931 (by decide +kernel) (by decide +kernel), List.forall_mem_cons.mpr ⟨mgd 136 (by decide +kernel) (by decide +kernel), List.forall_mem_cons.mpr ⟨mgd 1932 (by decide +kernel) (by decide +kernel), fun _ h => absurd h List.not_mem_nil⟩⟩⟩⟩
theorem vX14_announce0_148 : ∀ w ∈ ([.methodLink RX14 148 yX14_check, .static yX14_check, .initialized yX14_check.cls, .code yX14_check cX14_check 1 none] : List Cond), w ∈ lw_good := List.forall_mem_cons.mpr ⟨mgd 1933 (by decide +kernel) (by decide +kernel), List.forall_mem_cons.mpr ⟨mgd 1934 (by decide +kernel) (by decide +kernel), List.forall_mem_cons.mpr ⟨mgd 136 (by decide +kernel) (by decide +kernel), List.forall_mem_cons.mpr ⟨mgd 1935 (by decide +kernel) (by decide +kernel), fun _ h => absurd h List.not_mem_nil⟩⟩⟩⟩
theorem vX14_announce0_384 : ∀ w ∈ ([.methodLink RX14 384 yX14_writeSummary, .instanceMethod yX14_writeSummary, .selects yX14_writeSummary.cls yX14_writeSummary yX14_writeSummary, .initialized yX14_writeSummary.cls, .code yX14_writeSummary cX14_writeSummary 4 none] : List Cond), w ∈ lw_good := List.forall_mem_cons.mpr ⟨mgd 2242 (by decide +kernel) (by decide +kernel), List.forall_mem_cons.mpr ⟨mgd 2244 (by decide +kernel) (by decide +kernel), List.forall_mem_cons.mpr ⟨mgd 84 (by decide +kernel) (by decide +kernel), List.forall_mem_cons.mpr ⟨mgd 136 (by decide +kernel) (by decide +kernel), List.forall_mem_cons.mpr ⟨mgd 2245 (by decide +kernel) (by decide +kernel), fun _ h => absurd h List.not_mem_nil⟩⟩⟩⟩⟩
theorem vX14_announce0_387 : ∀ w ∈ ([.methodLink RX14 387 yX14_keep, .instanceMethod yX14_keep, .selects yX14_keep.cls yX14_keep yX14_keep, .initialized yX14_keep.cls, .code yX14_keep cX14_keep 2 (some .int)] : List Cond), w ∈ lw_good := List.forall_mem_cons.mpr ⟨mgd 2269 (by decide +kernel) (by decide +kernel), List.forall_mem_cons.mpr ⟨mgd 2271 (by decide +kernel) (by decide +kernel), List.forall_mem_cons.mpr ⟨mgd 87 (by decide +kernel) (by decide +kernel), List.forall_mem_cons.mpr ⟨mgd 136 (by decide +kernel) (by decide +kernel), List.forall_mem_cons.mpr ⟨mgd 2272 (by decide +kernel) (by decide +kernel), fun _ h => absurd h List.not_mem_nil⟩⟩⟩⟩⟩
set_option maxRecDepth 100000 in
set_option maxHeartbeats 2000000 in
theorem c_rac0 (l : Launch) (hlt : l.stackTraces = false) : ∀ (t : Nat) (p : Int32) (s : Int32) (F : Nat → Nat × Nat) (z : Nat → Nat) (Y : Nat → Nat → Nat) (R : Rb) (kz : Nat → Nat), CtX l yX14_announce0 (Cond.code yX14_announce0 cX14_announce0 3 (some .int)) (some .int) 8 130 (sp_rac0 t p s F z Y R kz) := by
  intro t p s F z Y R kz
  refine CtX.of hlt (fX14, nX14, aX14, iX14, lX14, [(203, 0, 2, 3, T_rgr), (144, 2, 3, 1, T_rin), (148, 2, 1, 0, T_rck), (384, 0, 2, 0, T_rwsm), (387, 0, 2, 1, T_rkp)], qX14, gX14, []) false tX14_announce0 (fun _ _ _ => none) (by decide) (by decide) kX14_announce0 ⟨_, _, rfl⟩ fX14_ok nX14_ok aX14_ok iX14_ok lX14_ok (fun p e R s m args below meth c Q D cy z r A C hR1 hR2 => List.forall_mem_cons.mpr ⟨cOK_use (fun _ _ _ _ _ _ _ _ h => let ⟨sp, h1, h2, h3⟩ := u_rgr l hlt _ _ _ _ _ _ _ _ h; ⟨sp, cOKx_V C h1 vX14_announce0_203 ⟨by decide, by decide, by decide +kernel⟩ ⟨by rw [hR1]; decide, by rw [hR2]; decide⟩ (k := 15) (T := TX14) (N := 52) rfl (by decide) h2, h3⟩), List.forall_mem_cons.mpr ⟨cOK_use (fun _ _ _ _ _ _ _ _ h => let ⟨sp, h1, _, h3⟩ := u_rin l _ _ _ _ _ _ _ _ h; ⟨sp, cOK_S C h1 vX14_announce0_144 ⟨by decide, by decide, by decide +kernel⟩ ⟨by rw [hR1]; decide, by rw [hR2]; decide⟩, h3⟩), List.forall_mem_cons.mpr ⟨cOK_use (fun _ _ _ _ _ _ _ _ h => let ⟨sp, h1, _, h3⟩ := u_rck l hlt _ _ _ _ _ _ _ _ h; ⟨sp, cOKx_S C h1 vX14_announce0_148 ⟨by decide, by decide, by decide +kernel⟩ ⟨by rw [hR1]; decide, by rw [hR2]; decide⟩, h3⟩), List.forall_mem_cons.mpr ⟨cOK_use (fun _ _ _ _ _ _ _ _ h => let ⟨sp, h1, h2, h3⟩ := u_rwsm l _ _ _ _ _ _ _ _ h; ⟨sp, cOK_V C h1 vX14_announce0_384 ⟨by decide, by decide, by decide +kernel⟩ ⟨by rw [hR1]; decide, by rw [hR2]; decide⟩ (k := 15) (T := TX14) (N := 52) rfl (by decide) h2, h3⟩), List.forall_mem_cons.mpr ⟨cOK_use (fun _ _ _ _ _ _ _ _ h => let ⟨sp, h1, h2, h3⟩ := u_rkp l _ _ _ _ _ _ _ _ h; ⟨sp, cOK_V C h1 vX14_announce0_387 ⟨by decide, by decide, by decide +kernel⟩ ⟨by rw [hR1]; decide, by rw [hR2]; decide⟩ (k := 15) (T := TX14) (N := 52) rfl (by decide) h2, h3⟩), fun _ h => absurd h List.not_mem_nil⟩⟩⟩⟩⟩) qX14_ok gX14_ok (fun _ h => absurd h List.not_mem_nil) ?_ ?_
  · rintro _ S ⟨rfl, hp⟩
    refine ⟨Nat.le_of_ble_eq_true rfl, 300, ?_⟩
    show (0 = 0 ∧ (∃ (F_1 : Nat → Nat × Nat) (z_2 : Nat → Nat) (Y_3 : Nat → Nat → Nat) (R_4 : Rb) (kz_5 : Nat → Nat), (MD S F_1 t z_2 Y_3 R_4 kz_5) ∧ 0 + 1 ≤ 2 + kpC R s.toNatClampNeg ∧ 0 + 6 ≤ 12 + kpZ R s.toNatClampNeg ∧ ((∀ (x_7 : Option Nat) (S_6 : MM), (S_6 = S ∧ ∃ n, n < 4 ∧ p = nI n ∧ x_7 = some (Y_3 n 0)) → (2 = 2 ∧ (True ∧ 0 + 1 ≤ 2 + kpC R s.toNatClampNeg ∧ 0 + 6 ≤ 12 + kpZ R s.toNatClampNeg ∧ ((2 = 2 ∧ (((tf ((0 : Int32) ≤ s ∧ s ≤ (7 : Int32))) = 0 ∨ (tf ((0 : Int32) ≤ s ∧ s ≤ (7 : Int32))) = 1) ∧ 0 + 1 + 1 ≤ 2 + kpC R s.toNatClampNeg ∧ 0 + 6 + 6 ≤ 12 + kpZ R s.toNatClampNeg ∧ ((∀ (S_9 : MM), (S_9 = S_6 ∧ (tf ((0 : Int32) ≤ s ∧ s ≤ (7 : Int32))) = 1) → (0 = 0 ∧ (∃ (p_10 : Nat), p = nI p_10 ∧ (∃ (F_11 : Nat → Nat × Nat) (z_12 : Nat → Nat) (Y_13 : Nat → Nat → Nat) (R_14 : Rb) (kz_15 : Nat → Nat), (MD S_9 F_11 t z_12 Y_13 R_14 kz_15 ∧ p_10 < 4) ∧ 0 + 1 + 1 ≤ 2 + kpC R s.toNatClampNeg ∧ 0 + 6 + 6 ≤ 12 + kpZ R s.toNatClampNeg ∧ (∀ (S_16 : MM), (ouQ S_9 S_16 F_11 t z_12 Y_13 R_14 kz_15 21 (rsmB (R_14.Q.G p_10) p_10 256 ++ (List.range 4).map (clB (crB (rsmB (R_14.Q.G p_10) p_10 256) (rsmB (R_14.Q.G p_10) p_10 256).length ^^^ -1)))) → (0 = 0 ∧ (∃ (i_17 : Nat), s = nI i_17 ∧ (∃ (F_18 : Nat → Nat × Nat) (z_19 : Nat → Nat) (Y_20 : Nat → Nat → Nat) (R_21 : Rb) (kz_22 : Nat → Nat) (B_23 : List Nat), (MD S_16 F_18 t z_19 Y_20 R_21 kz_22 ∧ i_17 < 8 ∧ Ou S_16 (z_19 21) (z_19 (70 + 21)) B_23 ∧ B_23 ≠ [] ∧ B_23.length ≤ 32768) ∧ 0 + 1 + 1 + (kpC R_21 i_17) ≤ 2 + kpC R s.toNatClampNeg ∧ 0 + 6 + 6 + (kpZ R_21 i_17) ≤ 12 + kpZ R s.toNatClampNeg ∧ (∀ (S_24 : MM), (mdQ S_16 S_24 F_18 t (kpR R_21 i_17 B_23) kz_22) → (([] : List MV) = [] ∧ mret (some .int) (sp_rac0 t p s F z Y R kz) [.inr (.inr (some t)), .inl p, .inl s] S (some (.inl (nI B_23.length))) S_24 (0 + 1 + 1 + (kpC R_21 i_17)) (0 + 6 + 6 + (kpZ R_21 i_17)))))))))))) ∧ (((tf ((0 : Int32) ≤ s ∧ s ≤ (7 : Int32))) = 0) → mthr (sp_rac0 t p s F z Y R kz) [.inr (.inr (some t)), .inl p, .inl s] S 1 S_6 (0 + 1 + 1) (0 + 6 + 6))))))))) ∧ ((np 4 p) → mthr (sp_rac0 t p s F z Y R kz) [.inr (.inr (some t)), .inl p, .inl s] S 1 S (0 + 1) (0 + 6)))))
    have fail : ∀ {a b : Nat}, (np 4 p ∨ np 8 s) → a ≤ 2 → b ≤ 12 → mthr (sp_rac0 t p s F z Y R kz) [.inr (.inr (some t)), .inl p, .inl s] S 1 S a b := fun h ha hb => ⟨⟨rfl, h, rfl⟩, Nat.le_trans ha (Nat.le_add_right _ _), Nat.le_trans hb (Nat.le_add_right _ _)⟩
    refine ⟨rfl, F, z, Y, R, kz, hp, by omega, by omega, fun v S6 h => ?_, fun h => fail (Or.inl h) (by decide) (by decide)⟩
    obtain ⟨rfl, n, hn, rfl, rfl⟩ := h
    refine ⟨rfl, trivial, by omega, by omega, rfl, tf_b _, by omega, by omega, fun S9 h => ?_, fun h => fail (Or.inr (in_0k (k := 7) (by decide) h)) (by decide) (by decide)⟩
    obtain ⟨rfl, h⟩ := h
    obtain ⟨i, hi, rfl⟩ := in_1k (k := 7) (by decide) h
    have ci : (nI i).toNatClampNeg = i := nI_clamp (by omega)
    refine ⟨rfl, n, rfl, F, z, Y, R, kz, ⟨hp, hn⟩, by omega, by omega, fun S16 hQ => ?_⟩
    obtain ⟨q1, q2, q3⟩ := hQ
    obtain ⟨w1, w2⟩ := rsmW_ok R n
    obtain ⟨-, f16, k16⟩ := hp.out (k0 := 21) (Or.inl rfl) q3 q2
    rw [ci]
    exact ⟨rfl, i, rfl, F, z, Y, R, kz, _, ⟨q1, hi, q2, w1, w2⟩, Nat.le_refl _, Nat.le_refl _, fun S20 hQ => ⟨rfl, trivial, ⟨_, rfl, n, i, hn, rfl, hi, rfl, rfl, mdQ.tr0 k16 f16 hQ⟩, by show _ ≤ 2 + kpC R (nI i).toNatClampNeg; rw [ci]; exact Nat.le_refl _, by show _ ≤ 12 + kpZ R (nI i).toNatClampNeg; rw [ci]; exact Nat.le_refl _⟩⟩
  · exact fun _ _ _ _ _ h => by cases h
theorem u_rac0 (l : Launch) (hlt : l.stackTraces = false) : UsX l yX14_announce0 (Cond.code yX14_announce0 cX14_announce0 3 (some .int)) (some .int) 8 130 15 T_rac0 := by
  intro Rc Rs av S cs sl K Kx h
  unfold T_rac0 at h
  split at h
  · rename_i t_o p s
    obtain ⟨t, rfl, h_1⟩ := pa_of h
    obtain ⟨F, z, Y, R, kz, hp, hc, hs, hk, hx0⟩ := h_1
    refine ⟨(sp_rac0 t p s F z Y R kz), c_rac0 l hlt t p s F z Y R kz, fun _ _ h9 => ⟨_, _, h9.1, (h9.2 0).1⟩, ⟨rfl, hp⟩, hc, hs, fun v9 S' h8 => by
      obtain ⟨v8, h7, h8⟩ := h8
      cases h7
      exact hk _ _ h8, fun _ _ q => by
      rcases q with ⟨rfl, q⟩
      · obtain ⟨q, rfl⟩ := q
        exact hx0 q⟩
  · exact h.elim
def I_sd (t : Nat) (p to s : Int32) (Y : Nat → Nat → Nat) (S : MM) (k : Nat) : KT := fun lo st S1 cs sl => ∃ n o i, k = 1 ∧ n < 4 ∧ p = nI n ∧ (∀ q, o = some q → q < 4) ∧ to = stI o ∧ i < 8 ∧ s = nI i ∧ lo = [(0, .inr (.inr (some t))), (1, .inl (nI n)), (2, .inl (stI o)), (3, .inl (nI i)), (4, .inr (.inr (some (Y n 0))))] ∧ st = [] ∧ S = S1 ∧ cs = 2 ∧ sl = 12
def T_rsd0 : TR := fun Rc Rs av S cs sl K Kx => match av with
  | [.inr (.inr t_o), .inl p, .inl to, .inl s] => pa t_o fun t => (∃ (F : Nat → Nat × Nat) (z : Nat → Nat) (Y : Nat → Nat → Nat) (R : Rb) (kz : Nat → Nat), (MD S F t z Y R kz ∧ AbC R) ∧ cs + (3 + kpC R s.toNatClampNeg) ≤ Rc ∧ sl + (18 + kpZ R s.toNatClampNeg) ≤ Rs ∧ ((∀ (v : Int32) (S' : MM), (∃ n o i, n < 4 ∧ p = nI n ∧ (∀ q, o = some q → q < 4) ∧ to = stI o ∧ i < 8 ∧ s = nI i ∧ (rmB (wpF R n o) n 5).length + 4 ≤ 32768 ∧ v = nI (rmA (wpF R n o) n).length ∧ mdQ S S' F t (kpR R i (rmA (wpF R n o) n)) kz) → K (some (.inl v)) S' (cs + (3 + kpC R s.toNatClampNeg)) (sl + (18 + kpZ R s.toNatClampNeg))) ∧ ((np 4 p ∨ (to ≠ -1 ∧ np 4 to) ∨ np 8 s) → Kx 1 S (cs + (3 + kpC R s.toNatClampNeg)) (sl + (18 + kpZ R s.toNatClampNeg))) ∧ (∀ (S' : MM), (∃ n o i, n < 4 ∧ p = nI n ∧ (∀ q, o = some q → q < 4) ∧ to = stI o ∧ i < 8 ∧ s = nI i ∧ 32768 < (rmB (wpF R n o) n 5).length + 4 ∧ mdQ S S' F t R kz) → Kx 0 S' (cs + (3 + kpC R s.toNatClampNeg)) (sl + (18 + kpZ R s.toNatClampNeg)))))
  | _ => False
def sp_rsd0 (t : Nat) (p : Int32) (to : Int32) (s : Int32) (F : Nat → Nat × Nat) (z : Nat → Nat) (Y : Nat → Nat → Nat) (R : Rb) (kz : Nat → Nat) : Sp := (fun av S => av = [.inr (.inr (some t)), .inl p, .inl to, .inl s] ∧ (MD S F t z Y R kz ∧ AbC R), fun _ S => 3 + kpC R s.toNatClampNeg, fun _ S => 18 + kpZ R s.toNatClampNeg, fun _ S rv S' => ∃ v, rv = (some (.inl v)) ∧ (∃ n o i, n < 4 ∧ p = nI n ∧ (∀ q, o = some q → q < 4) ∧ to = stI o ∧ i < 8 ∧ s = nI i ∧ (rmB (wpF R n o) n 5).length + 4 ≤ 32768 ∧ v = nI (rmA (wpF R n o) n).length ∧ mdQ S S' F t (kpR R i (rmA (wpF R n o) n)) kz), fun _ S E S' => (E = 1 ∧ (np 4 p ∨ (to ≠ -1 ∧ np 4 to) ∨ np 8 s) ∧ S' = S) ∨ (E = 0 ∧ (∃ n o i, n < 4 ∧ p = nI n ∧ (∀ q, o = some q → q < 4) ∧ to = stI o ∧ i < 8 ∧ s = nI i ∧ 32768 < (rmB (wpF R n o) n 5).length + 4 ∧ mdQ S S' F t R kz)))
def tX14_send0 : CD := [(0, .aload_n 0), (1, .iload_n 1), (2, .invokevirtual 203), (5, .astore 4), (7, .iload_n 2), (8, .iconst (-1)), (9, .iconst 3), (10, .invokestatic 144), (13, .ifCond .eq 17), (16, .iload_n 3), (17, .iconst 0), (18, .bipush 7), (20, .invokestatic 144), (23, .ifCond .eq 7), (26, .iconst 1), (27, .goto 4), (30, .iconst 0), (31, .invokestatic 148), (34, .aload_n 0), (35, .iload_n 1), (36, .iload_n 2), (37, .ifCond .ge 7), (40, .aconst_null), (41, .goto 10), (44, .aload 4), (46, .getfield 390), (49, .iload_n 2), (50, .aaload), (51, .invokevirtual 394), (54, .aload_n 0), (55, .iload_n 3), (56, .invokevirtual 387), (59, .ireturn)]
set_option maxRecDepth 100000 in
theorem kX14_send0 : chk cX14_send0 tX14_send0 = true := by decide +kernel
theorem vX14_send0_203 : ∀ w ∈ ([.methodLink RX14 203 yX14_graph, .instanceMethod yX14_graph, .selects yX14_graph.cls yX14_graph yX14_graph, .initialized yX14_graph.cls, .code yX14_graph cX14_graph 2 (some (.object "WeaveTextModel$Graph"))] : List Cond), w ∈ lw_good := List.forall_mem_cons.mpr ⟨mgd 1946 (by decide +kernel) (by decide +kernel), List.forall_mem_cons.mpr ⟨mgd 1948 (by decide +kernel) (by decide +kernel), List.forall_mem_cons.mpr ⟨mgd 52 (by decide +kernel) (by decide +kernel), List.forall_mem_cons.mpr ⟨mgd 136 (by decide +kernel) (by decide +kernel), List.forall_mem_cons.mpr ⟨mgd 1949 (by decide +kernel) (by decide +kernel), fun _ h => absurd h List.not_mem_nil⟩⟩⟩⟩⟩
theorem vX14_send0_144 : ∀ w ∈ ([.methodLink RX14 144 yX14_in, .static yX14_in, .initialized yX14_in.cls, .code yX14_in cX14_in 3 (some .boolean)] : List Cond), w ∈ lw_good := List.forall_mem_cons.mpr ⟨mgd 1930 (by decide +kernel) (by decide +kernel), List.forall_mem_cons.mpr ⟨mgd 1931 (by decide +kernel) (by decide +kernel), List.forall_mem_cons.mpr ⟨mgd 136 (by decide +kernel) (by decide +kernel), List.forall_mem_cons.mpr ⟨mgd 1932 (by decide +kernel) (by decide +kernel), fun _ h => absurd h List.not_mem_nil⟩⟩⟩⟩
theorem vX14_send0_148 : ∀ w ∈ ([.methodLink RX14 148 yX14_check, .static yX14_check, .initialized yX14_check.cls, .code yX14_check cX14_check 1 none] : List Cond), w ∈ lw_good := List.forall_mem_cons.mpr ⟨mgd 1933 (by decide +kernel) (by decide +kernel), List.forall_mem_cons.mpr ⟨mgd 1934 (by decide +kernel) (by decide +kernel), List.forall_mem_cons.mpr ⟨mgd 136 (by decide +kernel) (by decide +kernel), List.forall_mem_cons.mpr ⟨mgd 1935 (by decide +kernel) (by decide +kernel), fun _ h => absurd h List.not_mem_nil⟩⟩⟩⟩
theorem vX14_send0_394 : ∀ w ∈ ([.methodLink RX14 394 yX14_writePatch, .instanceMethod yX14_writePatch, .selects yX14_writePatch.cls yX14_writePatch yX14_writePatch, .initialized yX14_writePatch.cls, .code yX14_writePatch cX14_writePatch 10 none] : List Cond), w ∈ lw_good := List.forall_mem_cons.mpr ⟨mgd 2281 (by decide +kernel) (by decide +kernel), List.forall_mem_cons.mpr ⟨mgd 2283 (by decide +kernel) (by decide +kernel), List.forall_mem_cons.mpr ⟨mgd 89 (by decide +kernel) (by decide +kernel), List.forall_mem_cons.mpr ⟨mgd 136 (by decide +kernel) (by decide +kernel), List.forall_mem_cons.mpr ⟨mgd 2284 (by decide +kernel) (by decide +kernel), fun _ h => absurd h List.not_mem_nil⟩⟩⟩⟩⟩
theorem vX14_send0_387 : ∀ w ∈ ([.methodLink RX14 387 yX14_keep, .instanceMethod yX14_keep, .selects yX14_keep.cls yX14_keep yX14_keep, .initialized yX14_keep.cls, .code yX14_keep cX14_keep 2 (some .int)] : List Cond), w ∈ lw_good := List.forall_mem_cons.mpr ⟨mgd 2269 (by decide +kernel) (by decide +kernel), List.forall_mem_cons.mpr ⟨mgd 2271 (by decide +kernel) (by decide +kernel), List.forall_mem_cons.mpr ⟨mgd 87 (by decide +kernel) (by decide +kernel), List.forall_mem_cons.mpr ⟨mgd 136 (by decide +kernel) (by decide +kernel), List.forall_mem_cons.mpr ⟨mgd 2272 (by decide +kernel) (by decide +kernel), fun _ h => absurd h List.not_mem_nil⟩⟩⟩⟩⟩
set_option maxRecDepth 100000 in
set_option maxHeartbeats 2000000 in
theorem c_rsd0 (l : Launch) (hlt : l.stackTraces = false) : ∀ (t : Nat) (p : Int32) (to : Int32) (s : Int32) (F : Nat → Nat × Nat) (z : Nat → Nat) (Y : Nat → Nat → Nat) (R : Rb) (kz : Nat → Nat), CtX l yX14_send0 (Cond.code yX14_send0 cX14_send0 5 (some .int)) (some .int) 8 130 (sp_rsd0 t p to s F z Y R kz) := by
  intro t p to s F z Y R kz
  refine CtX.of hlt (fX14, nX14, aX14, iX14, lX14, [(203, 0, 2, 3, T_rgr), (144, 2, 3, 1, T_rin), (148, 2, 1, 0, T_rck), (394, 0, 3, 0, T_rwp), (387, 0, 2, 1, T_rkp)], qX14, gX14, []) false tX14_send0 (fun _ S => look [(34, ([0,1,2,3,4], I_sd t p to s Y S))]) (by decide) (by decide) kX14_send0 ⟨_, _, rfl⟩ fX14_ok nX14_ok aX14_ok iX14_ok lX14_ok (fun p e R s m args below meth c Q D cy z r A C hR1 hR2 => List.forall_mem_cons.mpr ⟨cOK_use (fun _ _ _ _ _ _ _ _ h => let ⟨sp, h1, h2, h3⟩ := u_rgr l hlt _ _ _ _ _ _ _ _ h; ⟨sp, cOKx_V C h1 vX14_send0_203 ⟨by decide, by decide, by decide +kernel⟩ ⟨by rw [hR1]; decide, by rw [hR2]; decide⟩ (k := 15) (T := TX14) (N := 52) rfl (by decide) h2, h3⟩), List.forall_mem_cons.mpr ⟨cOK_use (fun _ _ _ _ _ _ _ _ h => let ⟨sp, h1, _, h3⟩ := u_rin l _ _ _ _ _ _ _ _ h; ⟨sp, cOK_S C h1 vX14_send0_144 ⟨by decide, by decide, by decide +kernel⟩ ⟨by rw [hR1]; decide, by rw [hR2]; decide⟩, h3⟩), List.forall_mem_cons.mpr ⟨cOK_use (fun _ _ _ _ _ _ _ _ h => let ⟨sp, h1, _, h3⟩ := u_rck l hlt _ _ _ _ _ _ _ _ h; ⟨sp, cOKx_S C h1 vX14_send0_148 ⟨by decide, by decide, by decide +kernel⟩ ⟨by rw [hR1]; decide, by rw [hR2]; decide⟩, h3⟩), List.forall_mem_cons.mpr ⟨cOK_use (fun _ _ _ _ _ _ _ _ h => let ⟨sp, h1, h2, h3⟩ := u_rwp l hlt _ _ _ _ _ _ _ _ h; ⟨sp, cOKx_V C h1 vX14_send0_394 ⟨by decide, by decide, by decide +kernel⟩ ⟨by rw [hR1]; decide, by rw [hR2]; decide⟩ (k := 15) (T := TX14) (N := 52) rfl (by decide) h2, h3⟩), List.forall_mem_cons.mpr ⟨cOK_use (fun _ _ _ _ _ _ _ _ h => let ⟨sp, h1, h2, h3⟩ := u_rkp l _ _ _ _ _ _ _ _ h; ⟨sp, cOK_V C h1 vX14_send0_387 ⟨by decide, by decide, by decide +kernel⟩ ⟨by rw [hR1]; decide, by rw [hR2]; decide⟩ (k := 15) (T := TX14) (N := 52) rfl (by decide) h2, h3⟩), fun _ h => absurd h List.not_mem_nil⟩⟩⟩⟩⟩) qX14_ok gX14_ok (fun _ h => absurd h List.not_mem_nil) ?_ ?_
  · rintro _ S ⟨rfl, hp⟩
    refine ⟨Nat.le_of_ble_eq_true rfl, 300, ?_⟩
    show (0 = 0 ∧ (∃ (F_1 : Nat → Nat × Nat) (z_2 : Nat → Nat) (Y_3 : Nat → Nat → Nat) (R_4 : Rb) (kz_5 : Nat → Nat), (MD S F_1 t z_2 Y_3 R_4 kz_5) ∧ 0 + 1 ≤ 3 + kpC R s.toNatClampNeg ∧ 0 + 6 ≤ 18 + kpZ R s.toNatClampNeg ∧ ((∀ (x_7 : Option Nat) (S_6 : MM), (S_6 = S ∧ ∃ n, n < 4 ∧ p = nI n ∧ x_7 = some (Y_3 n 0)) → (2 = 2 ∧ (True ∧ 0 + 1 ≤ 3 + kpC R s.toNatClampNeg ∧ 0 + 6 ≤ 18 + kpZ R s.toNatClampNeg ∧ ((((tf ((-1 : Int32) ≤ to ∧ to ≤ (3 : Int32))) = 0 → (2 = 2 ∧ (((0 : Int32) = 0 ∨ (0 : Int32) = 1) ∧ 0 + 1 + 1 ≤ 3 + kpC R s.toNatClampNeg ∧ 0 + 6 + 6 ≤ 18 + kpZ R s.toNatClampNeg ∧ ((∀ (S_9 : MM), (S_9 = S_6 ∧ (0 : Int32) = 1) → (∃ k1, I_sd t p to s Y S k1 [(0, .inr (.inr (some t))), (1, .inl p), (2, .inl to), (3, .inl s), (4, .inr (.inr x_7))] [] S_9 (0 + 1 + 1) (0 + 6 + 6))) ∧ (((0 : Int32) = 0) → mthr (sp_rsd0 t p to s F z Y R kz) [.inr (.inr (some t)), .inl p, .inl to, .inl s] S 1 S_6 (0 + 1 + 1) (0 + 6 + 6)))))) ∧ (¬ (tf ((-1 : Int32) ≤ to ∧ to ≤ (3 : Int32))) = 0 → (2 = 2 ∧ (True ∧ 0 + 1 ≤ 3 + kpC R s.toNatClampNeg ∧ 0 + 6 ≤ 18 + kpZ R s.toNatClampNeg ∧ ((((tf ((0 : Int32) ≤ s ∧ s ≤ (7 : Int32))) = 0 → (2 = 2 ∧ (((0 : Int32) = 0 ∨ (0 : Int32) = 1) ∧ 0 + 1 + 1 ≤ 3 + kpC R s.toNatClampNeg ∧ 0 + 6 + 6 ≤ 18 + kpZ R s.toNatClampNeg ∧ ((∀ (S_12 : MM), (S_12 = S_6 ∧ (0 : Int32) = 1) → (∃ k1, I_sd t p to s Y S k1 [(0, .inr (.inr (some t))), (1, .inl p), (2, .inl to), (3, .inl s), (4, .inr (.inr x_7))] [] S_12 (0 + 1 + 1) (0 + 6 + 6))) ∧ (((0 : Int32) = 0) → mthr (sp_rsd0 t p to s F z Y R kz) [.inr (.inr (some t)), .inl p, .inl to, .inl s] S 1 S_6 (0 + 1 + 1) (0 + 6 + 6)))))) ∧ (¬ (tf ((0 : Int32) ≤ s ∧ s ≤ (7 : Int32))) = 0 → (2 = 2 ∧ (((1 : Int32) = 0 ∨ (1 : Int32) = 1) ∧ 0 + 1 + 1 ≤ 3 + kpC R s.toNatClampNeg ∧ 0 + 6 + 6 ≤ 18 + kpZ R s.toNatClampNeg ∧ ((∀ (S_14 : MM), (S_14 = S_6 ∧ (1 : Int32) = 1) → (∃ k1, I_sd t p to s Y S k1 [(0, .inr (.inr (some t))), (1, .inl p), (2, .inl to), (3, .inl s), (4, .inr (.inr x_7))] [] S_14 (0 + 1 + 1) (0 + 6 + 6))) ∧ (((1 : Int32) = 0) → mthr (sp_rsd0 t p to s F z Y R kz) [.inr (.inr (some t)), .inl p, .inl to, .inl s] S 1 S_6 (0 + 1 + 1) (0 + 6 + 6)))))))))))))))) ∧ ((np 4 p) → mthr (sp_rsd0 t p to s F z Y R kz) [.inr (.inr (some t)), .inl p, .inl to, .inl s] S 1 S (0 + 1) (0 + 6)))))
    obtain ⟨hM, hA⟩ := hp
    have fail : ∀ {a b : Nat}, (np 4 p ∨ (to ≠ -1 ∧ np 4 to) ∨ np 8 s) → a ≤ 3 → b ≤ 18 → mthr (sp_rsd0 t p to s F z Y R kz) [.inr (.inr (some t)), .inl p, .inl to, .inl s] S 1 S a b := fun h ha hb => ⟨Or.inl ⟨rfl, h, rfl⟩, Nat.le_trans ha (Nat.le_add_right _ _), Nat.le_trans hb (Nat.le_add_right _ _)⟩
    refine ⟨rfl, F, z, Y, R, kz, hM, by omega, by omega, fun v S6 h => ?_, fun h => fail (Or.inl h) (by decide) (by decide)⟩
    obtain ⟨rfl, n, hn, rfl, rfl⟩ := h
    refine ⟨rfl, trivial, by omega, by omega, fun h => ⟨rfl, Or.inl rfl, by omega, by omega, fun S9 h => absurd h.2 (by decide), fun _ => fail (Or.inr (Or.inl (in_0s h))) (by decide) (by decide)⟩, fun h => ?_⟩
    obtain ⟨o, rfl, ho⟩ := in_1s ((tf_b _).resolve_left h)
    refine ⟨rfl, trivial, by omega, by omega, fun h => ⟨rfl, Or.inl rfl, by omega, by omega, fun S9 h => absurd h.2 (by decide), fun _ => fail (Or.inr (Or.inr (in_0k (k := 7) (by decide) h))) (by decide) (by decide)⟩, fun h => ⟨rfl, Or.inr rfl, by omega, by omega, fun S9 h9 => ?_, fun h => absurd h (by decide)⟩⟩
    obtain ⟨i, hi, rfl⟩ := in_1k (k := 7) (by decide) ((tf_b _).resolve_left h)
    obtain ⟨rfl, -⟩ := h9
    exact ⟨1, n, o, i, rfl, hn, rfl, ho, rfl, hi, rfl, rfl, rfl, rfl, rfl, rfl⟩
  · intro av S hpre pc I hI k lo st S1 cs sl h
    obtain ⟨rfl, hp⟩ := hpre
    have hm := look_in hI
    rw [List.mem_singleton] at hm
    cases hm
    obtain ⟨n, o, i, rfl, hn, hpn, ho, hto, hi, hsi, rfl, rfl, rfl, rfl, rfl⟩ := h
    refine ⟨300, ?_⟩
    show ((0 ≤ (stI o) → (isO S 13 (Y n 0) ∧ (pa (mR S 1322 (Y n 0)) fun a_1 => a_1 ∈ mL S ∧ ¬ mK S a_1 < 21 ∧ mK S a_1 < 29 ∧ inR S a_1 (stI o) ∧ (0 = 0 ∧ (∃ (p_2 : Nat), nI n = nI p_2 ∧ (∃ (F_3 : Nat → Nat × Nat) (z_4 : Nat → Nat) (Y_5 : Nat → Nat → Nat) (R_6 : Rb) (kz_7 : Nat → Nat) (o_8 : Option Nat), (MD S F_3 t z_4 Y_5 R_6 kz_7 ∧ AbC R_6 ∧ p_2 < 4 ∧ (∀ q, o_8 = some q → q < 4) ∧ (eR S a_1 (stI o).toNatClampNeg) = kRo Y_5 p_2 o_8) ∧ 2 + 1 ≤ 3 + kpC R s.toNatClampNeg ∧ 12 + 6 ≤ 18 + kpZ R s.toNatClampNeg ∧ ((∀ (S_9 : MM), (wpQ9 S S_9 F_3 t z_4 Y_5 R_6 kz_7 ∧ (rmB (wpF R_6 p_2 o_8) p_2 5).length + 4 ≤ 32768 ∧ Ou S_9 (z_4 21) (z_4 (70 + 21)) (rmA (wpF R_6 p_2 o_8) p_2)) → (0 = 0 ∧ (∃ (i_10 : Nat), nI i = nI i_10 ∧ (∃ (F_11 : Nat → Nat × Nat) (z_12 : Nat → Nat) (Y_13 : Nat → Nat → Nat) (R_14 : Rb) (kz_15 : Nat → Nat) (B_16 : List Nat), (MD S_9 F_11 t z_12 Y_13 R_14 kz_15 ∧ i_10 < 8 ∧ Ou S_9 (z_12 21) (z_12 (70 + 21)) B_16 ∧ B_16 ≠ [] ∧ B_16.length ≤ 32768) ∧ 2 + 1 + (kpC R_14 i_10) ≤ 3 + kpC R s.toNatClampNeg ∧ 12 + 6 + (kpZ R_14 i_10) ≤ 18 + kpZ R s.toNatClampNeg ∧ (∀ (S_17 : MM), (mdQ S_9 S_17 F_11 t (kpR R_14 i_10 B_16) kz_15) → (([] : List MV) = [] ∧ mret (some .int) (sp_rsd0 t p to s F z Y R kz) [.inr (.inr (some t)), .inl p, .inl to, .inl s] S (some (.inl (nI B_16.length))) S_17 (2 + 1 + (kpC R_14 i_10)) (12 + 6 + (kpZ R_14 i_10)))))))) ∧ (∀ (S_18 : MM), (wpQ9 S S_18 F_3 t z_4 Y_5 R_6 kz_7 ∧ 32768 < (rmB (wpF R_6 p_2 o_8) p_2 5).length + 4) → mthr (sp_rsd0 t p to s F z Y R kz) [.inr (.inr (some t)), .inl p, .inl to, .inl s] S 0 S_18 (2 + 1) (12 + 6))))))))) ∧ (¬ 0 ≤ (stI o) → (0 = 0 ∧ (∃ (p_19 : Nat), nI n = nI p_19 ∧ (∃ (F_20 : Nat → Nat × Nat) (z_21 : Nat → Nat) (Y_22 : Nat → Nat → Nat) (R_23 : Rb) (kz_24 : Nat → Nat) (o_25 : Option Nat), (MD S F_20 t z_21 Y_22 R_23 kz_24 ∧ AbC R_23 ∧ p_19 < 4 ∧ (∀ q, o_25 = some q → q < 4) ∧ none = kRo Y_22 p_19 o_25) ∧ 2 + 1 ≤ 3 + kpC R s.toNatClampNeg ∧ 12 + 6 ≤ 18 + kpZ R s.toNatClampNeg ∧ ((∀ (S_26 : MM), (wpQ9 S S_26 F_20 t z_21 Y_22 R_23 kz_24 ∧ (rmB (wpF R_23 p_19 o_25) p_19 5).length + 4 ≤ 32768 ∧ Ou S_26 (z_21 21) (z_21 (70 + 21)) (rmA (wpF R_23 p_19 o_25) p_19)) → (0 = 0 ∧ (∃ (i_27 : Nat), nI i = nI i_27 ∧ (∃ (F_28 : Nat → Nat × Nat) (z_29 : Nat → Nat) (Y_30 : Nat → Nat → Nat) (R_31 : Rb) (kz_32 : Nat → Nat) (B_33 : List Nat), (MD S_26 F_28 t z_29 Y_30 R_31 kz_32 ∧ i_27 < 8 ∧ Ou S_26 (z_29 21) (z_29 (70 + 21)) B_33 ∧ B_33 ≠ [] ∧ B_33.length ≤ 32768) ∧ 2 + 1 + (kpC R_31 i_27) ≤ 3 + kpC R s.toNatClampNeg ∧ 12 + 6 + (kpZ R_31 i_27) ≤ 18 + kpZ R s.toNatClampNeg ∧ (∀ (S_34 : MM), (mdQ S_26 S_34 F_28 t (kpR R_31 i_27 B_33) kz_32) → (([] : List MV) = [] ∧ mret (some .int) (sp_rsd0 t p to s F z Y R kz) [.inr (.inr (some t)), .inl p, .inl to, .inl s] S (some (.inl (nI B_33.length))) S_34 (2 + 1 + (kpC R_31 i_27)) (12 + 6 + (kpZ R_31 i_27)))))))) ∧ (∀ (S_35 : MM), (wpQ9 S S_35 F_20 t z_21 Y_22 R_23 kz_24 ∧ 32768 < (rmB (wpF R_23 p_19 o_25) p_19 5).length + 4) → mthr (sp_rsd0 t p to s F z Y R kz) [.inr (.inr (some t)), .inl p, .inl to, .inl s] S 0 S_35 (2 + 1) (12 + 6))))))))
    obtain ⟨hM, hA⟩ := hp
    have cs9 : s.toNatClampNeg = i := by rw [hsi]; exact nI_clamp (by omega)
    have hln : (rmA (wpF R n o) n).length = (rmB (wpF R n o) n 5).length + 4 := by
      unfold rmA
      rw [List.length_append, List.length_map, List.length_range]
    have go1 : ∀ S28, wpQ9 S S28 F t z Y R kz ∧ (rmB (wpF R n o) n 5).length + 4 ≤ 32768 ∧ Ou S28 (z 21) (z (70 + 21)) (rmA (wpF R n o) n) → MD S28 F t z Y R kz ∧ i < 8 ∧ Ou S28 (z 21) (z (70 + 21)) (rmA (wpF R n o) n) ∧ rmA (wpF R n o) n ≠ [] ∧ (rmA (wpF R n o) n).length ≤ 32768 := fun S28 h => ⟨h.1.1, hi, h.2.2, fun e => by rw [e, List.length_nil] at hln; omega, by rw [hln]; exact h.2.1⟩
    have kk : ∀ {S28}, wpQ9 S S28 F t z Y R kz → Keep (fun c => 100 ≤ (F c).1) S S28 := fun {S28} h => h.2.1.mono (fun b _ q => by rcases q with q | q <;> omega)
    have go2 : ∀ S28, wpQ9 S S28 F t z Y R kz ∧ (rmB (wpF R n o) n 5).length + 4 ≤ 32768 ∧ Ou S28 (z 21) (z (70 + 21)) (rmA (wpF R n o) n) → ∀ S', mdQ S28 S' F t (kpR R i (rmA (wpF R n o) n)) kz → (([] : List MV) = [] ∧ mret (some .int) (sp_rsd0 t p to s F z Y R kz) [.inr (.inr (some t)), .inl p, .inl to, .inl s] S (some (.inl (nI (rmA (wpF R n o) n).length))) S' (2 + 1 + kpC R i) (12 + 6 + kpZ R i)) := fun S28 h S' hQ => ⟨rfl, trivial, ⟨_, rfl, n, o, i, hn, hpn, ho, hto, hi, hsi, h.2.1, rfl, mdQ.tr0 (kk h.1) h.1.2.2 hQ⟩, by show _ ≤ 3 + kpC R s.toNatClampNeg; rw [cs9]; exact Nat.le_refl _, by show _ ≤ 18 + kpZ R s.toNatClampNeg; rw [cs9]; exact Nat.le_refl _⟩
    have go3 : ∀ S29, wpQ9 S S29 F t z Y R kz ∧ 32768 < (rmB (wpF R n o) n 5).length + 4 → mthr (sp_rsd0 t p to s F z Y R kz) [.inr (.inr (some t)), .inl p, .inl to, .inl s] S 0 S29 (2 + 1) (12 + 6) := fun S29 h => ⟨Or.inr ⟨rfl, n, o, i, hn, hpn, ho, hto, hi, hsi, h.2, F, z, Y, h.1.1, fun _ _ => rfl, kk h.1, h.1.2.2⟩, Nat.le_add_right _ _, Nat.le_add_right _ _⟩
    rw [cs9]
    cases o with
    | none =>
      refine ⟨fun q => absurd q (by decide), fun _ => ⟨rfl, n, rfl, F, z, Y, R, kz, none, ⟨hM, hA, hn, ho, rfl⟩, by omega, by omega, fun S28 h => ⟨rfl, i, rfl, F, z, Y, R, kz, _, go1 S28 h, Nat.le_refl _, Nat.le_refl _, go2 S28 h⟩, go3⟩⟩
    | some q =>
      have hq := ho q rfl
      have g := (hM 2 n hn).2.1
      have r22 := g.row (k := 22) (by decide) (by decide) (by decide)
      have k22 := (hM 2 n hn).2.2.1 q hq
      have cq : (nI q).toNatClampNeg = q := nI_clamp (by omega)
      refine ⟨fun _ => ⟨(g 0).1, pa_i r22.1 ⟨r22.2.1.1, by rw [r22.2.1.2]; decide, by rw [r22.2.1.2]; decide, inRn (N := 4) r22.2.2 hq (by decide), rfl, n, rfl, F, z, Y, R, kz, some q, ⟨hM, hA, hn, ho, ?_⟩, by omega, by omega, fun S28 h => ⟨rfl, i, rfl, F, z, Y, R, kz, _, go1 S28 h, Nat.le_refl _, Nat.le_refl _, go2 S28 h⟩, go3⟩⟩, fun w => absurd (Int32.not_lt.1 (nI_pos (by omega))) w⟩
      show eR S (Y n 22) (nI q).toNatClampNeg = _
      rw [cq]; exact k22.1
theorem u_rsd0 (l : Launch) (hlt : l.stackTraces = false) : UsX l yX14_send0 (Cond.code yX14_send0 cX14_send0 5 (some .int)) (some .int) 8 130 15 T_rsd0 := by
  intro Rc Rs av S cs sl K Kx h
  unfold T_rsd0 at h
  split at h
  · rename_i t_o p to s
    obtain ⟨t, rfl, h_1⟩ := pa_of h
    obtain ⟨F, z, Y, R, kz, hp, hc, hs, hk, hx0, hx1⟩ := h_1
    refine ⟨(sp_rsd0 t p to s F z Y R kz), c_rsd0 l hlt t p to s F z Y R kz, fun _ _ h9 => ⟨_, _, h9.1, (h9.2.1 0).1⟩, ⟨rfl, hp⟩, hc, hs, fun v9 S' h8 => by
      obtain ⟨v8, h7, h8⟩ := h8
      cases h7
      exact hk _ _ h8, fun _ _ q => by
      rcases q with ⟨rfl, q⟩ | ⟨rfl, q⟩
      · obtain ⟨q, rfl⟩ := q
        exact hx0 q
      · exact hx1 _ q⟩
  · exact h.elim
