/-! ===== The reference's summary ===== -/
def rsmA (G : Gr) : Nat → List Nat
  | 0 => []
  | a + 1 => rsmA G a ++ if (agE G a).length = 0 then [] else vbN 5 a ++ vbN 5 (agE G a).length
def rsmB (G : Gr) (p a : Nat) : List Nat := [87, 2, p] ++ vbN 5 G.m ++ rsmA G a
def I_wsm (t p : Nat) (F : Nat → Nat × Nat) (z : Nat → Nat) (Y : Nat → Nat → Nat) (R : Rb) (kz : Nat → Nat) (S : MM) (k : Nat) : KT := fun lo st S1 cs sl => ∃ a, a + k = 256 ∧ ouQ S S1 F t z Y R kz 21 (rsmB (R.Q.G p) p a) ∧ (rsmB (R.Q.G p) p a).length ≤ 8 + 10 * a ∧ lo = [(0, .inr (.inr (some t))), (2, .inr (.inr (some (Y p 0)))), (3, .inl (nI a))] ∧ st = [] ∧ cs = 0 ∧ sl = 0
def T_rwsm : TR := fun Rc Rs av S cs sl K _Kx => match av with
  | [.inr (.inr t_o), .inl p_v] => pa t_o fun t => (∃ (p : Nat), p_v = nI p ∧ (∃ (F : Nat → Nat × Nat) (z : Nat → Nat) (Y : Nat → Nat → Nat) (R : Rb) (kz : Nat → Nat), (MD S F t z Y R kz ∧ p < 4) ∧ cs ≤ Rc ∧ sl ≤ Rs ∧ (∀ (S' : MM), (ouQ S S' F t z Y R kz 21 (rsmB (R.Q.G p) p 256 ++ (List.range 4).map (clB (crB (rsmB (R.Q.G p) p 256) (rsmB (R.Q.G p) p 256).length ^^^ -1)))) → K none S' cs sl)))
  | _ => False
def sp_rwsm (t : Nat) (p : Nat) (F : Nat → Nat × Nat) (z : Nat → Nat) (Y : Nat → Nat → Nat) (R : Rb) (kz : Nat → Nat) : Sp := (fun av S => av = [.inr (.inr (some t)), .inl (nI p)] ∧ (MD S F t z Y R kz ∧ p < 4), fun _ S => 0, fun _ S => 0, fun _ S rv S' => rv = none ∧ (ouQ S S' F t z Y R kz 21 (rsmB (R.Q.G p) p 256 ++ (List.range 4).map (clB (crB (rsmB (R.Q.G p) p 256) (rsmB (R.Q.G p) p 256).length ^^^ -1)))), fun _ _ _ _ => False)
def tX14_writeSummary : CD := [(0, .aload_n 0), (1, .getfield 11), (4, .iload_n 1), (5, .aaload), (6, .astore_n 2), (7, .aload_n 0), (8, .iconst 2), (9, .iload_n 1), (10, .invokevirtual 323), (13, .aload_n 0), (14, .getfield 63), (17, .aload_n 2), (18, .getfield 180), (21, .i2l), (22, .invokevirtual 326), (25, .iconst 0), (26, .istore_n 3), (27, .iload_n 3), (28, .sipush 256), (31, .if_icmp .ge 42), (34, .aload_n 2), (35, .iload_n 3), (36, .invokevirtual 218), (39, .ifCond .ne 6), (42, .goto 25), (45, .aload_n 0), (46, .getfield 63), (49, .iload_n 3), (50, .i2l), (51, .invokevirtual 326), (54, .aload_n 0), (55, .getfield 63), (58, .aload_n 2), (59, .iload_n 3), (60, .invokevirtual 218), (63, .i2l), (64, .invokevirtual 326), (67, .iinc 3 1), (70, .goto (-43)), (73, .aload_n 0), (74, .invokevirtual 329), (77, .return_)]
set_option maxRecDepth 100000 in
theorem kX14_writeSummary : chk cX14_writeSummary tX14_writeSummary = true := by decide +kernel
theorem vX14_writeSummary_323 : ∀ w ∈ ([.methodLink RX14 323 yX14_begin, .instanceMethod yX14_begin, .selects yX14_begin.cls yX14_begin yX14_begin, .initialized yX14_begin.cls, .code yX14_begin cX14_begin 3 none] : List Cond), w ∈ lw_good := List.forall_mem_cons.mpr ⟨mgd 2246 (by decide +kernel) (by decide +kernel), List.forall_mem_cons.mpr ⟨mgd 2248 (by decide +kernel) (by decide +kernel), List.forall_mem_cons.mpr ⟨mgd 85 (by decide +kernel) (by decide +kernel), List.forall_mem_cons.mpr ⟨mgd 136 (by decide +kernel) (by decide +kernel), List.forall_mem_cons.mpr ⟨mgd 2249 (by decide +kernel) (by decide +kernel), fun _ h => absurd h List.not_mem_nil⟩⟩⟩⟩⟩
theorem vX14_writeSummary_326 : ∀ w ∈ ([.methodLink RX14 326 yX13_number, .instanceMethod yX13_number, .selects yX13_number.cls yX13_number yX13_number, .initialized yX13_number.cls, .code yX13_number cX13_number 5 none] : List Cond), w ∈ lw_good := List.forall_mem_cons.mpr ⟨mgd 2254 (by decide +kernel) (by decide +kernel), List.forall_mem_cons.mpr ⟨mgd 2255 (by decide +kernel) (by decide +kernel), List.forall_mem_cons.mpr ⟨mgd 2256 (by decide +kernel) (by decide +kernel), List.forall_mem_cons.mpr ⟨mgd 137 (by decide +kernel) (by decide +kernel), List.forall_mem_cons.mpr ⟨mgd 2257 (by decide +kernel) (by decide +kernel), fun _ h => absurd h List.not_mem_nil⟩⟩⟩⟩⟩
theorem vX14_writeSummary_218 : ∀ w ∈ ([.methodLink RX14 218 yX12_countOf, .instanceMethod yX12_countOf, .selects yX12_countOf.cls yX12_countOf yX12_countOf, .initialized yX12_countOf.cls, .code yX12_countOf cX12_countOf 3 (some .int)] : List Cond), w ∈ lw_good := List.forall_mem_cons.mpr ⟨mgd 1979 (by decide +kernel) (by decide +kernel), List.forall_mem_cons.mpr ⟨mgd 1980 (by decide +kernel) (by decide +kernel), List.forall_mem_cons.mpr ⟨mgd 1981 (by decide +kernel) (by decide +kernel), List.forall_mem_cons.mpr ⟨mgd 138 (by decide +kernel) (by decide +kernel), List.forall_mem_cons.mpr ⟨mgd 1982 (by decide +kernel) (by decide +kernel), fun _ h => absurd h List.not_mem_nil⟩⟩⟩⟩⟩
theorem vX14_writeSummary_329 : ∀ w ∈ ([.methodLink RX14 329 yX14_close, .instanceMethod yX14_close, .selects yX14_close.cls yX14_close yX14_close, .initialized yX14_close.cls, .code yX14_close cX14_close 3 none] : List Cond), w ∈ lw_good := List.forall_mem_cons.mpr ⟨mgd 2261 (by decide +kernel) (by decide +kernel), List.forall_mem_cons.mpr ⟨mgd 2263 (by decide +kernel) (by decide +kernel), List.forall_mem_cons.mpr ⟨mgd 86 (by decide +kernel) (by decide +kernel), List.forall_mem_cons.mpr ⟨mgd 136 (by decide +kernel) (by decide +kernel), List.forall_mem_cons.mpr ⟨mgd 2264 (by decide +kernel) (by decide +kernel), fun _ h => absurd h List.not_mem_nil⟩⟩⟩⟩⟩
set_option maxRecDepth 100000 in
set_option maxHeartbeats 2000000 in
theorem c_rwsm (l : Launch) : ∀ (t : Nat) (p : Nat) (F : Nat → Nat × Nat) (z : Nat → Nat) (Y : Nat → Nat → Nat) (R : Rb) (kz : Nat → Nat), Ct l yX14_writeSummary cX14_writeSummary 4 none 2 46 (sp_rwsm t p F z Y R kz) := by
  intro t p F z Y R kz
  refine Ct.of (fX14, nX14, aX14, iX14, lX14, [(323, 0, 3, 0, T_rbgn), (326, 0, 2, 0, T_onu), (218, 0, 2, 1, T_rco), (329, 0, 1, 0, T_rclo)], qX14, gX14, []) false tX14_writeSummary (fun _ S => look [(27, ([0,2,3], I_wsm t p F z Y R kz S))]) (by decide) (by decide) kX14_writeSummary ⟨_, _, rfl⟩ fX14_ok nX14_ok aX14_ok iX14_ok lX14_ok (fun p e R s m args below meth c Q D cy z r A C hR1 hR2 => List.forall_mem_cons.mpr ⟨cOK_use (fun _ _ _ _ _ _ _ _ h => let ⟨sp, h1, h2, h3⟩ := u_rbgn l _ _ _ _ _ _ _ _ h; ⟨sp, cOK_V C h1 vX14_writeSummary_323 ⟨by decide, by decide, by decide +kernel⟩ ⟨by rw [hR1]; decide, by rw [hR2]; decide⟩ (k := 15) (T := TX14) (N := 52) rfl (by decide) h2, h3⟩), List.forall_mem_cons.mpr ⟨cOK_use (fun _ _ _ _ _ _ _ _ h => let ⟨sp, h1, h2, h3⟩ := u_onu l _ _ _ _ _ _ _ _ h; ⟨sp, cOK_V C h1 vX14_writeSummary_326 ⟨by decide, by decide, by decide +kernel⟩ ⟨by rw [hR1]; decide, by rw [hR2]; decide⟩ (k := 14) (T := TX13) (N := 2) rfl (by decide) h2, h3⟩), List.forall_mem_cons.mpr ⟨cOK_use (fun _ _ _ _ _ _ _ _ h => let ⟨sp, h1, h2, h3⟩ := u_rco l _ _ _ _ _ _ _ _ h; ⟨sp, cOK_V C h1 vX14_writeSummary_218 ⟨by decide, by decide, by decide +kernel⟩ ⟨by rw [hR1]; decide, by rw [hR2]; decide⟩ (k := 13) (T := TX12) (N := 27) rfl (by decide) h2, h3⟩), List.forall_mem_cons.mpr ⟨cOK_use (fun _ _ _ _ _ _ _ _ h => let ⟨sp, h1, h2, h3⟩ := u_rclo l _ _ _ _ _ _ _ _ h; ⟨sp, cOK_V C h1 vX14_writeSummary_329 ⟨by decide, by decide, by decide +kernel⟩ ⟨by rw [hR1]; decide, by rw [hR2]; decide⟩ (k := 15) (T := TX14) (N := 52) rfl (by decide) h2, h3⟩), fun _ h => absurd h List.not_mem_nil⟩⟩⟩⟩) qX14_ok gX14_ok rfl ?_ ?_
  · rintro _ S ⟨rfl, hp⟩
    refine ⟨Nat.le_of_ble_eq_true rfl, 300, ?_⟩
    show (isO S 15 t ∧ (pa (mR S 1500 t) fun a_1 => a_1 ∈ mL S ∧ ¬ mK S a_1 < 21 ∧ mK S a_1 < 29 ∧ inR S a_1 (nI p) ∧ (0 = 0 ∧ (∃ (k2_2 : Nat), (2 : Int32) = nI k2_2 ∧ (∃ (p_3 : Nat), nI p = nI p_3 ∧ (∃ (F_4 : Nat → Nat × Nat) (z_5 : Nat → Nat) (Y_6 : Nat → Nat → Nat) (R_7 : Rb) (kz_8 : Nat → Nat), (MD S F_4 t z_5 Y_6 R_7 kz_8 ∧ k2_2 < 256 ∧ p_3 < 256) ∧ 0 ≤ 0 ∧ 0 ≤ 0 ∧ (∀ (S_9 : MM), (ouQ S S_9 F_4 t z_5 Y_6 R_7 kz_8 21 [87, k2_2, p_3]) → (isO S_9 15 t ∧ (pa (eR S a_1 (nI p).toNatClampNeg) fun a_10 => isO S_9 13 a_10 ∧ (0 = 0 ∧ ((pa (mR S_9 1521 t) fun a_11 => (∃ (cb_12 : Nat) (B_13 : List Nat) (n_14 : Nat), (Ou S_9 a_11 cb_12 B_13 ∧ ((mI S_9 1301 a_10).toInt64) = lN n_14 ∧ n_14 < 2 ^ 35 ∧ B_13.length + 5 ≤ 1000000) ∧ 0 ≤ 0 ∧ 0 ≤ 0 ∧ (∀ (S_15 : MM), (ouP S_9 S_15 a_11 cb_12 (B_13 ++ vbN 5 n_14)) → (∃ k1, I_wsm t p F z Y R kz S k1 [(0, .inr (.inr (some t))), (2, .inr (.inr (eR S a_1 (nI p).toNatClampNeg))), (3, .inl (0 : Int32))] [] S_15 0 0)))))))))))))))
    obtain ⟨h, hp4⟩ := hp
    have r0 := h 1 0 (by decide)
    have cp : (nI p).toNatClampNeg = p := nI_clamp (by omega)
    have er : eR S (z 0) (nI p).toNatClampNeg = some (Y p 0) := by rw [cp]; exact (h 2 p hp4).1
    refine ⟨(h 0).1, pa_i r0.1 ⟨r0.2.2.1.1, by rw [r0.2.2.1.2]; decide, by rw [r0.2.2.1.2]; decide, inRn (N := 4) r0.2.2.2 hp4 (by decide), rfl, 2, rfl, p, rfl, F, z, Y, R, kz, ⟨h, by decide, by omega⟩, Nat.le_refl _, Nat.le_refl _, fun S9 hQ => ?_⟩⟩
    obtain ⟨h9, o9, k9⟩ := hQ
    have g9 := (h9 2 p hp4).2.1
    have hnm := g9.nm
    have m1 : mI S9 1301 (Y p 0) = nI (R.Q.G p).m := (g9 2).2.1
    refine ⟨(h9 0).1, pa_i er ⟨(g9 0).1, rfl, pa_i (h9 10 21 (Or.inl rfl)).1 ⟨z (70 + 21), _, (R.Q.G p).m, ⟨o9, by rw [m1, nI_l (by omega)], by omega, show 3 + 5 ≤ 1000000 by decide⟩, Nat.le_refl _, Nat.le_refl _, fun S15 q => ?_⟩⟩⟩
    obtain ⟨o15, k15⟩ := q
    have K15 := k9.tr k15
    have m15 := (h.out (k0 := 21) (Or.inl rfl) K15 o15).1
    have ol : (rsmB (R.Q.G p) p 0).length ≤ 8 + 10 * 0 := by
      have := vbN_len 5 (R.Q.G p).m
      unfold rsmB rsmA
      rw [List.append_nil, List.length_append]
      show 3 + _ ≤ 8
      omega
    refine ⟨256, 0, rfl, ⟨m15, ?_, K15⟩, ol, by rw [er]; rfl, rfl, rfl, rfl⟩
    unfold rsmB rsmA
    rw [List.append_nil]
    exact o15
  · intro av S hpre pc I hI k lo st S1 cs sl h
    obtain ⟨rfl, hp⟩ := hpre
    have hm := look_in hI
    rw [List.mem_singleton] at hm
    cases hm
    obtain ⟨a, ha, hQ, hl, rfl, rfl, rfl, rfl⟩ := h
    refine ⟨300, ?_⟩
    show (((256 : Int32) ≤ (nI a) → (0 = 0 ∧ (∃ (F_1 : Nat → Nat × Nat) (z_2 : Nat → Nat) (Y_3 : Nat → Nat → Nat) (R_4 : Rb) (kz_5 : Nat → Nat) (B_6 : List Nat), (MD S1 F_1 t z_2 Y_3 R_4 kz_5 ∧ Ou S1 (z_2 21) (z_2 (70 + 21)) B_6 ∧ B_6.length ≤ 32768) ∧ 0 ≤ 0 ∧ 0 ≤ 0 ∧ (∀ (S_7 : MM), (ouQ S1 S_7 F_1 t z_2 Y_3 R_4 kz_5 21 (B_6 ++ (List.range 4).map (clB (crB B_6 B_6.length ^^^ -1)))) → (([] : List MV) = [] ∧ mret none (sp_rwsm t p F z Y R kz) [.inr (.inr (some t)), .inl (nI p)] S none S_7 0 0))))) ∧ (¬ (256 : Int32) ≤ (nI a) → (0 = 0 ∧ (∃ (a_8 : Nat), nI a = nI a_8 ∧ (∃ (F_9 : Nat → Nat × Nat) (i_10 : Nat) (y_11 : Nat → Nat) (G_12 : Gr) (T_13 : Tr), ((Y p 0) = y_11 0 ∧ RG S1 F_9 i_10 y_11 G_12 T_13 ∧ a_8 < 256) ∧ 0 ≤ 0 ∧ 0 ≤ 0 ∧ (((¬ (nI (agE G_12 a_8).length) = 0 → (isO S1 15 t ∧ (0 = 0 ∧ ((pa (mR S1 1521 t) fun a_15 => (∃ (cb_16 : Nat) (B_17 : List Nat) (n_18 : Nat), (Ou S1 a_15 cb_16 B_17 ∧ ((nI a).toInt64) = lN n_18 ∧ n_18 < 2 ^ 35 ∧ B_17.length + 5 ≤ 1000000) ∧ 0 ≤ 0 ∧ 0 ≤ 0 ∧ (∀ (S_19 : MM), (ouP S1 S_19 a_15 cb_16 (B_17 ++ vbN 5 n_18)) → (isO S_19 15 t ∧ (0 = 0 ∧ (∃ (a_20 : Nat), nI a = nI a_20 ∧ (∃ (F_21 : Nat → Nat × Nat) (i_22 : Nat) (y_23 : Nat → Nat) (G_24 : Gr) (T_25 : Tr), ((Y p 0) = y_23 0 ∧ RG S_19 F_21 i_22 y_23 G_24 T_25 ∧ a_20 < 256) ∧ 0 ≤ 0 ∧ 0 ≤ 0 ∧ ((0 = 0 ∧ ((pa (mR S_19 1521 t) fun a_27 => (∃ (cb_28 : Nat) (B_29 : List Nat) (n_30 : Nat), (Ou S_19 a_27 cb_28 B_29 ∧ ((nI (agE G_24 a_20).length).toInt64) = lN n_30 ∧ n_30 < 2 ^ 35 ∧ B_29.length + 5 ≤ 1000000) ∧ 0 ≤ 0 ∧ 0 ≤ 0 ∧ (∀ (S_31 : MM), (ouP S_19 S_31 a_27 cb_28 (B_29 ++ vbN 5 n_30)) → (∃ k1, k1 < k ∧ I_wsm t p F z Y R kz S k1 [(0, .inr (.inr (some t))), (2, .inr (.inr (some (Y p 0)))), (3, .inl ((nI a) + (1 : Int32)))] [] S_31 0 0)))))))))))))))))) ∧ ((nI (agE G_12 a_8).length) = 0 → (∃ k1, k1 < k ∧ I_wsm t p F z Y R kz S k1 [(0, .inr (.inr (some t))), (2, .inr (.inr (some (Y p 0)))), (3, .inl ((nI a) + (1 : Int32)))] [] S1 0 0)))))))))
    obtain ⟨h, hp4⟩ := hp
    obtain ⟨h1, o1, k1⟩ := hQ
    have g1 := (h1 2 p hp4).2.1
    have hnm := g1.nm
    have hal : (agE (R.Q.G p) a).length ≤ 8192 := by
      have := List.length_filter_le (fun k => decide ((R.Q.G p).ag ((R.Q.G p).ev k).sl = a)) (List.range (R.Q.G p).n)
      rw [List.length_range] at this
      exact Nat.le_trans this hnm.1
    refine if_le (a := 256) (b := a) (by decide) (by omega) (fun w => ?_) (fun w => ?_)
    · have ha6 : a = 256 := by omega
      subst ha6
      refine ⟨rfl, F, z, Y, R, kz, _, ⟨h1, o1, by omega⟩, Nat.le_refl _, Nat.le_refl _, fun S7 q => ?_⟩
      obtain ⟨q1, q2, q3⟩ := q
      exact ⟨rfl, trivial, ⟨rfl, q1, q2, k1.tr q3⟩, Nat.le_refl _, Nat.le_refl _⟩
    · have es : rsmB (R.Q.G p) p (a + 1) = rsmB (R.Q.G p) p a ++ if (agE (R.Q.G p) a).length = 0 then [] else vbN 5 a ++ vbN 5 (agE (R.Q.G p) a).length := by
        unfold rsmB
        rw [rsmA, ← List.append_assoc]
      have v1 := vbN_len 5 a
      have v2 := vbN_len 5 (agE (R.Q.G p) a).length
      refine ⟨rfl, a, rfl, F, 101 + p, Y p, R.Q.G p, R.Q.T p, ⟨rfl, g1, w⟩, Nat.le_refl _, Nat.le_refl _, fun q => ?_, fun q => ?_⟩
      · have hne : (agE (R.Q.G p) a).length ≠ 0 := fun e => q (by rw [e]; rfl)
        rw [if_neg hne] at es
        refine ⟨(h1 0).1, rfl, pa_i (h1 10 21 (Or.inl rfl)).1 ⟨z (70 + 21), _, a, ⟨o1, nI_l (by omega), by omega, by omega⟩, Nat.le_refl _, Nat.le_refl _, fun S19 q9 => ?_⟩⟩
        obtain ⟨o19, k19⟩ := q9
        have K19 := k1.tr k19
        have m19 := (h.out (k0 := 21) (Or.inl rfl) K19 o19).1
        have g19 := (m19 2 p hp4).2.1
        refine ⟨(m19 0).1, rfl, a, rfl, F, 101 + p, Y p, R.Q.G p, R.Q.T p, ⟨rfl, g19, w⟩, Nat.le_refl _, Nat.le_refl _, rfl, pa_i (m19 10 21 (Or.inl rfl)).1 ⟨z (70 + 21), _, (agE (R.Q.G p) a).length, ⟨o19, nI_l (by omega), by omega, by rw [List.length_append]; omega⟩, Nat.le_refl _, Nat.le_refl _, fun S29 q9 => ?_⟩⟩
        obtain ⟨o29, k29⟩ := q9
        have K29 := K19.tr k29
        have m29 := (h.out (k0 := 21) (Or.inl rfl) K29 o29).1
        refine ⟨k - 1, by omega, a + 1, by omega, ⟨m29, ?_, K29⟩, ?_, by rw [nI_1], rfl, rfl, rfl⟩
        · rw [es, ← List.append_assoc]; exact o29
        · rw [es, List.length_append, List.length_append]; omega
      · have h0 : (agE (R.Q.G p) a).length = 0 := (nI_eq (b := 0) (by omega) (by decide)).1 q
        rw [if_pos h0, List.append_nil] at es
        exact ⟨k - 1, by omega, a + 1, by omega, ⟨h1, by rw [es]; exact o1, k1⟩, by rw [es]; omega, by rw [nI_1], rfl, rfl, rfl⟩
theorem u_rwsm (l : Launch) : Us l yX14_writeSummary cX14_writeSummary 4 none 2 46 15 T_rwsm := by
  intro Rc Rs av S cs sl K Kx h
  unfold T_rwsm at h
  split at h
  · rename_i t_o p_v
    obtain ⟨t, rfl, h_1⟩ := pa_of h
    obtain ⟨p, rfl, h_2⟩ := h_1
    obtain ⟨F, z, Y, R, kz, hp, hc, hs, hk⟩ := h_2
    refine ⟨(sp_rwsm t p F z Y R kz), c_rwsm l t p F z Y R kz, fun _ _ h9 => ⟨_, _, h9.1, (h9.2.1 0).1⟩, ⟨rfl, hp⟩, hc, hs, fun S' h8 => by
      obtain ⟨-, h8⟩ := h8
      exact hk _ h8, fun _ _ q => q.elim⟩
  · exact h.elim
