/-! ===== The law: insert ===== -/
theorem ag_ins {Q Q1 : Ab} {R R1 : Rb} {p x v v' : Int32} {c th : Nat} (hI : LIv Q R) (hB : BdQ Q) (hc : ((c = 0 ∧ ∃ (n i : Nat) (L : List Nat) (G' : Gr) (T' : Tr), n < 4 ∧ p = nI n ∧ i ≤ visN (Q.G n) (Q.T n) ∧ x = nI i ∧ syms Q.tp = some (L.map nI) ∧ roP (Q.G n) n L.length ∧ Run n (owN (Q.G n) n) (insO i L) (Q.G n) (Q.T n) G' T' ∧ v = nI L.length ∧ Q1 = (Q.sPe n G' T' (if L.length = 0 then Q.E n else Q.E n ++ [((Q.G n).n, L.length)])).sTp []) ∨ (c = 1 ∧ (np 4 p ∨ ∃ n, n < 4 ∧ p = nI n ∧ np (visN (Q.G n) (Q.T n) + 1) x) ∧ Q1 = Q) ∨ (c = 2 ∧ (∃ n i, n < 4 ∧ p = nI n ∧ i ≤ visN (Q.G n) (Q.T n) ∧ x = nI i) ∧ syms Q.tp = none ∧ Q1 = Q.sTp []) ∨ (c = 3 ∧ (∃ (n i : Nat) (L : List Nat), n < 4 ∧ p = nI n ∧ i ≤ visN (Q.G n) (Q.T n) ∧ x = nI i ∧ syms Q.tp = some (L.map nI) ∧ ¬ roP (Q.G n) n L.length) ∧ Q1 = Q.sTp []))) (hr : ((th = 0 ∧ ∃ (n i : Nat) (L : List Nat) (G' : Gr) (T' : Tr), n < 4 ∧ p = nI n ∧ (i ≤ visN (R.Q.G n) (R.Q.T n) ∧ x = nI i) ∧ syms R.Q.tp = some (L.map nI) ∧ roP (R.Q.G n) n L.length ∧ Run n (owN (R.Q.G n) n) (insO i L) (R.Q.G n) (R.Q.T n) G' T' ∧ v' = nI L.length ∧ R1 = inN R n G' T' L.length) ∨ (th = 1 ∧ (np 4 p ∨ ∃ n, n < 4 ∧ p = nI n ∧ np (visN (R.Q.G n) (R.Q.T n) + 1) x) ∧ R1 = R) ∨ (th = 2 ∧ (∃ n i, n < 4 ∧ p = nI n ∧ (i ≤ visN (R.Q.G n) (R.Q.T n) ∧ x = nI i)) ∧ syms R.Q.tp = none ∧ R1 = rtE R) ∨ (th = 3 ∧ (∃ (n i : Nat) (L : List Nat), n < 4 ∧ p = nI n ∧ (i ≤ visN (R.Q.G n) (R.Q.T n) ∧ x = nI i) ∧ syms R.Q.tp = some (L.map nI) ∧ ¬ roP (R.Q.G n) n L.length) ∧ R1 = rtE R))) : th = c ∧ (c = 0 → v' = v) ∧ LIv Q1 R1 := by
  obtain ⟨eG, eT, eK, etp, esl, eft, efo, emp, evw, ehu, eap, ean⟩ := id hI.1
  have hI0 : LIv (Q.sTp []) (rtE R) := hI.cg (hI.1.tp []) rfl rfl rfl rfl rfl rfl rfl rfl rfl
  rw [eG, eT, etp] at hr
  rcases hc with ⟨h0, n, i, L, G1, T1, h1, h2, h3, h4, h5, h6, h7, h8, rfl⟩ | ⟨h0, h1, rfl⟩ | ⟨h0, ⟨n, i, h1, h2, h3, h4⟩, h5, rfl⟩ | ⟨h0, ⟨n, i, L, h1, h2, h3, h4, h5, h6⟩, rfl⟩ <;> rcases hr with ⟨g0, n', i', L', G2, T2, g1, g2, ⟨g3, g4⟩, g5, g6, g7, g8, rfl⟩ | ⟨g0, g1, rfl⟩ | ⟨g0, ⟨n', i', g1, g2, ⟨g3, g4⟩⟩, g5, rfl⟩ | ⟨g0, ⟨n', i', L', g1, g2, ⟨g3, g4⟩, g5, g6⟩, rfl⟩
  · have b1 := run_ch h7
    have b2 := run_ch g7
    obtain ⟨rfl, rfl, rfl, rfl, rfl⟩ := ag_in hB h1 h2 h3 h4 h5 h7 g1 g2 g3 g4 g5 (fun c hc => by have := b1 c hc; omega) (fun c hc => by have := b2 c hc; omega) g7
    exact ⟨by omega, fun _ => g8.trans h8.symm, hI.ins h1 h6 h7⟩
  ·
    rcases g1 with q | ⟨m, q1, q2, q3⟩
    · exact (np_no q h1 h2).elim
    · have e := nI_ij h2 q2 (by omega) (by omega)
      subst e
      exact (np_no q3 (by omega) h4).elim
  · rw [h5] at g5; cases g5
  · have e := nI_ij h2 g2 (by omega) (by omega)
    subst e
    have e2 : L.length = L'.length := by
      rw [h5] at g5
      injection g5 with q
      have := congrArg List.length q
      rw [List.length_map, List.length_map] at this
      exact this
    rw [e2] at h6
    exact absurd h6 g6
  ·
    rcases h1 with q | ⟨m, q1, q2, q3⟩
    · exact (np_no q g1 g2).elim
    · have e := nI_ij g2 q2 (by omega) (by omega)
      subst e
      exact (np_no q3 (by omega) g4).elim
  · exact ⟨by omega, fun q => by omega, hI⟩
  ·
    rcases h1 with q | ⟨m, q1, q2, q3⟩
    · exact (np_no q g1 g2).elim
    · have e := nI_ij g2 q2 (by omega) (by omega)
      subst e
      exact (np_no q3 (by omega) g4).elim
  ·
    rcases h1 with q | ⟨m, q1, q2, q3⟩
    · exact (np_no q g1 g2).elim
    · have e := nI_ij g2 q2 (by omega) (by omega)
      subst e
      exact (np_no q3 (by omega) g4).elim
  · rw [h5] at g5; cases g5
  ·
    rcases g1 with q | ⟨m, q1, q2, q3⟩
    · exact (np_no q h1 h2).elim
    · have e := nI_ij h2 q2 (by omega) (by omega)
      subst e
      exact (np_no q3 (by omega) h4).elim
  · exact ⟨by omega, fun q => by omega, hI0⟩
  · rw [h5] at g5; cases g5
  · have e := nI_ij h2 g2 (by omega) (by omega)
    subst e
    have e2 : L.length = L'.length := by
      rw [h5] at g5
      injection g5 with q
      have := congrArg List.length q
      rw [List.length_map, List.length_map] at this
      exact this
    rw [e2] at h6
    exact absurd g6 h6
  ·
    rcases g1 with q | ⟨m, q1, q2, q3⟩
    · exact (np_no q h1 h2).elim
    · have e := nI_ij h2 q2 (by omega) (by omega)
      subst e
      exact (np_no q3 (by omega) h4).elim
  · rw [h5] at g5; cases g5
  · exact ⟨by omega, fun q => by omega, hI0⟩

theorem inC_some {kz : Nat → Nat} {Q : Ab} {n : Nat} {L : List Nat} (h : syms Q.tp = some (L.map nI)) : nc_inC kz Q n = nc_if (roP (Q.G n) n L.length) (runC (Q.G n) (owN (Q.G n) n) L.length + ekC (kz (30 + n)) (Q.E n).length L.length) 0 ∧ nc_inZ kz Q n = nc_if (roP (Q.G n) n L.length) (runZ (Q.G n) (owN (Q.G n) n) L.length + ekZ (kz (30 + n)) (Q.E n).length L.length) 0 := by
  unfold nc_inC nc_inZ
  rw [h]
  show nc_if (roP (Q.G n) n (L.map nI).length) _ _ = _ ∧ nc_if (roP (Q.G n) n (L.map nI).length) _ _ = _
  rw [List.length_map]
  exact ⟨rfl, rfl⟩
theorem in_b {Q : Ab} {R : Rb} {kz k2 : Nat → Nat} {n : Nat} (hI : LIv Q R) (hK : LIk kz k2) (hb : kzB kz) (hn : n < 4) : nc_inC kz Q n + pCc Q kz ≤ 295041 ∧ nc_inZ kz Q n + pZc Q kz ≤ 4262946 := by
  obtain ⟨p1, p2⟩ := pc_b (fun p hp => (hI.2.2.2.1 p hp).1.1) hb
  unfold nc_inC nc_inZ
  cases syms Q.tp with
  | none => exact ⟨by show 0 + _ ≤ _; omega, by show 0 + _ ≤ _; omega⟩
  | some l =>
    show nc_if (roP (Q.G n) n l.length) _ 0 + _ ≤ _ ∧ nc_if (roP (Q.G n) n l.length) _ 0 + _ ≤ _
    by_cases c : roP (Q.G n) n l.length
    · rw [nc_t c, nc_t c]
      exact ow_b hI hK hb hn c
    · rw [nc_f c, nc_f c]
      omega
set_option maxRecDepth 100000 in
set_option maxHeartbeats 2000000 in
theorem lwc_in {r k : Nat} {A : List Int32} {lo : List (Nat × MV)} {st : List MV} {S1 : MM} {cs sl : Nat} (h : I_lc r A k lo st S1 cs sl) : GoL k r A 316 lo st S1 cs sl := by
  obtain ⟨jn, t, m, o, F, X, kz, Q, z, Y, R, k2, hk, hj, hA, ⟨hL, hI, hK, hcs, hsl⟩, rfl, rfl⟩ := h
  refine ⟨300, ?_⟩
  show (∃ v_1 : Int32, (r = r ∧ vp_in ((nI (6 * jn)) + (1 : Int32)) A.length ∧ v_1 = A.getD ((nI (6 * jn)) + (1 : Int32)).toNatClampNeg 0) ∧ (∃ v_2 : Int32, (r = r ∧ vp_in ((nI (6 * jn)) + (2 : Int32)) A.length ∧ v_2 = A.getD ((nI (6 * jn)) + (2 : Int32)).toNatClampNeg 0) ∧ (2 = 2 ∧ (∃ (F_3 : Nat → Nat × Nat) (X_4 : Nat → GX) (kz_5 : Nat → Nat) (Q_6 : Ab), ((WT S1 F_3 t X_4 kz_5 Q_6 ∧ AbE kz_5) ∧ lwO S1 F_3 o) ∧ cs + (nc_i (∃ n i, n < 4 ∧ v_1 = nI n ∧ i ≤ visN (Q_6.G n) (Q_6.T n) ∧ v_2 = nI i) (nc_inC kz_5 Q_6 v_1.toNatClampNeg) + 3) ≤ 600128 ∧ sl + (nc_i (∃ n i, n < 4 ∧ v_1 = nI n ∧ i ≤ visN (Q_6.G n) (Q_6.T n) ∧ v_2 = nI i) (nc_inZ kz_5 Q_6 v_1.toNatClampNeg) + 18) ≤ 7301098 ∧ (∀ (x_8 : Int32) (S_7 : MM), ((x_8 = 0 ∧ ∃ (v0 : Int32) (S0 : MM), (∃ (n i : Nat) (L : List Nat) (Q1 : Ab) (X1 : Nat → GX) (kz1 : Nat → Nat), n < 4 ∧ v_1 = nI n ∧ i ≤ visN (Q_6.G n) (Q_6.T n) ∧ v_2 = nI i ∧ syms Q_6.tp = some (L.map nI) ∧ roP (Q_6.G n) n L.length ∧ v0 = nI L.length ∧ insR Q_6 X_4 kz_5 n i L Q1 X1 kz1 ∧ wtQ S1 S0 F_3 t X1 kz1 (Q1.sTp [])) ∧ S_7 = loJ S0 o v0.toInt64) ∨ (x_8 = 1 ∧ S_7 = S1 ∧ (np 4 v_1 ∨ ∃ n, n < 4 ∧ v_1 = nI n ∧ np (visN (Q_6.G n) (Q_6.T n) + 1) v_2)) ∨ (x_8 = 2 ∧ ((∃ n i, n < 4 ∧ v_1 = nI n ∧ i ≤ visN (Q_6.G n) (Q_6.T n) ∧ v_2 = nI i) ∧ syms Q_6.tp = none ∧ wtQ S1 S_7 F_3 t X_4 kz_5 (Q_6.sTp []))) ∨ (x_8 = 3 ∧ ((∃ (n i : Nat) (L : List Nat), n < 4 ∧ v_1 = nI n ∧ i ≤ visN (Q_6.G n) (Q_6.T n) ∧ v_2 = nI i ∧ syms Q_6.tp = some (L.map nI) ∧ ¬ roP (Q_6.G n) n L.length) ∧ wtQ S1 S_7 F_3 t X_4 kz_5 (Q_6.sTp [])))) → (∃ v_9 : Int32, (r = r ∧ vp_in ((nI (6 * jn)) + (1 : Int32)) A.length ∧ v_9 = A.getD ((nI (6 * jn)) + (1 : Int32)).toNatClampNeg 0) ∧ (∃ v_10 : Int32, (r = r ∧ vp_in ((nI (6 * jn)) + (2 : Int32)) A.length ∧ v_10 = A.getD ((nI (6 * jn)) + (2 : Int32)).toNatClampNeg 0) ∧ (0 = 0 ∧ (∃ (F_11 : Nat → Nat × Nat) (z_12 : Nat → Nat) (Y_13 : Nat → Nat → Nat) (R_14 : Rb) (kz_15 : Nat → Nat), (MD S_7 F_11 m z_12 Y_13 R_14 kz_15 ∧ AbC R_14) ∧ cs + (nc_i (∃ n i, n < 4 ∧ v_1 = nI n ∧ i ≤ visN (Q_6.G n) (Q_6.T n) ∧ v_2 = nI i) (nc_inC kz_5 Q_6 v_1.toNatClampNeg) + 3) + (4 + nc_i (∃ (n i : Nat) (L : List Nat), n < 4 ∧ v_9 = nI n ∧ inX R_14 n v_10 i ∧ syms R_14.Q.tp = some (L.map nI) ∧ roP (R_14.Q.G n) n L.length) (dC1 R_14 v_9.toNatClampNeg (tNs R_14))) ≤ 600128 ∧ sl + (nc_i (∃ n i, n < 4 ∧ v_1 = nI n ∧ i ≤ visN (Q_6.G n) (Q_6.T n) ∧ v_2 = nI i) (nc_inZ kz_5 Q_6 v_1.toNatClampNeg) + 18) + (24 + nc_i (∃ (n i : Nat) (L : List Nat), n < 4 ∧ v_9 = nI n ∧ inX R_14 n v_10 i ∧ syms R_14.Q.tp = some (L.map nI) ∧ roP (R_14.Q.G n) n L.length) (dC2 R_14 v_9.toNatClampNeg (tNs R_14))) ≤ 7301098 ∧ (∀ (x_17 : Int32) (S_16 : MM), ((rinW S_7 S_16 F_11 m R_14 kz_15 v_9 v_10 x_17) ∨ ((np 4 v_9 ∨ ∃ n, n < 4 ∧ v_9 = nI n ∧ np (visN (R_14.Q.G n) (R_14.Q.T n) + 1) v_10) ∧ x_17 = 0 ∧ mdW S_7 S_16 F_11 m R_14 kz_15 1) ∨ ((∃ n i, n < 4 ∧ v_9 = nI n ∧ inX R_14 n v_10 i) ∧ syms R_14.Q.tp = none ∧ mdW S_7 S_16 F_11 m (rtE R_14) kz_15 2 ∧ x_17 = 0) ∨ ((∃ (n i : Nat) (L : List Nat), n < 4 ∧ v_9 = nI n ∧ inX R_14 n v_10 i ∧ syms R_14.Q.tp = some (L.map nI) ∧ ¬ roP (R_14.Q.G n) n L.length) ∧ mdW S_7 S_16 F_11 m (rtE R_14) kz_15 3 ∧ x_17 = 0)) → (0 = 0 ∧ (∃ (v9_18 : Int32), (isO S_16 15 m ∧ mI S_16 1551 m = v9_18) ∧ cs + (nc_i (∃ n i, n < 4 ∧ v_1 = nI n ∧ i ≤ visN (Q_6.G n) (Q_6.T n) ∧ v_2 = nI i) (nc_inC kz_5 Q_6 v_1.toNatClampNeg) + 3) + (4 + nc_i (∃ (n i : Nat) (L : List Nat), n < 4 ∧ v_9 = nI n ∧ inX R_14 n v_10 i ∧ syms R_14.Q.tp = some (L.map nI) ∧ roP (R_14.Q.G n) n L.length) (dC1 R_14 v_9.toNatClampNeg (tNs R_14))) ≤ 600128 ∧ sl + (nc_i (∃ n i, n < 4 ∧ v_1 = nI n ∧ i ≤ visN (Q_6.G n) (Q_6.T n) ∧ v_2 = nI i) (nc_inZ kz_5 Q_6 v_1.toNatClampNeg) + 18) + (24 + nc_i (∃ (n i : Nat) (L : List Nat), n < 4 ∧ v_9 = nI n ∧ inX R_14 n v_10 i ∧ syms R_14.Q.tp = some (L.map nI) ∧ roP (R_14.Q.G n) n L.length) (dC2 R_14 v_9.toNatClampNeg (tNs R_14))) ≤ 7301098 ∧ (((v9_18 = x_8 → ((¬ x_8 = 0 → (∃ k1, k1 < k ∧ I_nx r A k1 [(0, .inr (.inr (some r))), (1, .inr (.inr (some t))), (2, .inr (.inr (some m))), (3, .inr (.inr (some o))), (4, .inl (nI (6 * jn)))] [] S_16 (cs + (nc_i (∃ n i, n < 4 ∧ v_1 = nI n ∧ i ≤ visN (Q_6.G n) (Q_6.T n) ∧ v_2 = nI i) (nc_inC kz_5 Q_6 v_1.toNatClampNeg) + 3) + (4 + nc_i (∃ (n i : Nat) (L : List Nat), n < 4 ∧ v_9 = nI n ∧ inX R_14 n v_10 i ∧ syms R_14.Q.tp = some (L.map nI) ∧ roP (R_14.Q.G n) n L.length) (dC1 R_14 v_9.toNatClampNeg (tNs R_14)))) (sl + (nc_i (∃ n i, n < 4 ∧ v_1 = nI n ∧ i ≤ visN (Q_6.G n) (Q_6.T n) ∧ v_2 = nI i) (nc_inZ kz_5 Q_6 v_1.toNatClampNeg) + 18) + (24 + nc_i (∃ (n i : Nat) (L : List Nat), n < 4 ∧ v_9 = nI n ∧ inX R_14 n v_10 i ∧ syms R_14.Q.tp = some (L.map nI) ∧ roP (R_14.Q.G n) n L.length) (dC2 R_14 v_9.toNatClampNeg (tNs R_14)))))) ∧ (x_8 = 0 → (isO S_16 18 o ∧ inR S_16 o (0 : Int32) ∧ (((lg_cmp (eJ S_16 o (0 : Int32).toNatClampNeg) x_17.toInt64) = 0 → (∃ k1, k1 < k ∧ I_nx r A k1 [(0, .inr (.inr (some r))), (1, .inr (.inr (some t))), (2, .inr (.inr (some m))), (3, .inr (.inr (some o))), (4, .inl (nI (6 * jn)))] [] S_16 (cs + (nc_i (∃ n i, n < 4 ∧ v_1 = nI n ∧ i ≤ visN (Q_6.G n) (Q_6.T n) ∧ v_2 = nI i) (nc_inC kz_5 Q_6 v_1.toNatClampNeg) + 3) + (4 + nc_i (∃ (n i : Nat) (L : List Nat), n < 4 ∧ v_9 = nI n ∧ inX R_14 n v_10 i ∧ syms R_14.Q.tp = some (L.map nI) ∧ roP (R_14.Q.G n) n L.length) (dC1 R_14 v_9.toNatClampNeg (tNs R_14)))) (sl + (nc_i (∃ n i, n < 4 ∧ v_1 = nI n ∧ i ≤ visN (Q_6.G n) (Q_6.T n) ∧ v_2 = nI i) (nc_inZ kz_5 Q_6 v_1.toNatClampNeg) + 18) + (24 + nc_i (∃ (n i : Nat) (L : List Nat), n < 4 ∧ v_9 = nI n ∧ inX R_14 n v_10 i ∧ syms R_14.Q.tp = some (L.map nI) ∧ roP (R_14.Q.G n) n L.length) (dC2 R_14 v_9.toNatClampNeg (tNs R_14)))))) ∧ (¬ (lg_cmp (eJ S_16 o (0 : Int32).toNatClampNeg) x_17.toInt64) = 0 → (([] : List MV) = [] ∧ retL (some (.inl (0 : Int32))) S_16 (cs + (nc_i (∃ n i, n < 4 ∧ v_1 = nI n ∧ i ≤ visN (Q_6.G n) (Q_6.T n) ∧ v_2 = nI i) (nc_inC kz_5 Q_6 v_1.toNatClampNeg) + 3) + (4 + nc_i (∃ (n i : Nat) (L : List Nat), n < 4 ∧ v_9 = nI n ∧ inX R_14 n v_10 i ∧ syms R_14.Q.tp = some (L.map nI) ∧ roP (R_14.Q.G n) n L.length) (dC1 R_14 v_9.toNatClampNeg (tNs R_14)))) (sl + (nc_i (∃ n i, n < 4 ∧ v_1 = nI n ∧ i ≤ visN (Q_6.G n) (Q_6.T n) ∧ v_2 = nI i) (nc_inZ kz_5 Q_6 v_1.toNatClampNeg) + 18) + (24 + nc_i (∃ (n i : Nat) (L : List Nat), n < 4 ∧ v_9 = nI n ∧ inX R_14 n v_10 i ∧ syms R_14.Q.tp = some (L.map nI) ∧ roP (R_14.Q.G n) n L.length) (dC2 R_14 v_9.toNatClampNeg (tNs R_14))))))))))) ∧ (¬ v9_18 = x_8 → (([] : List MV) = [] ∧ retL (some (.inl (0 : Int32))) S_16 (cs + (nc_i (∃ n i, n < 4 ∧ v_1 = nI n ∧ i ≤ visN (Q_6.G n) (Q_6.T n) ∧ v_2 = nI i) (nc_inC kz_5 Q_6 v_1.toNatClampNeg) + 3) + (4 + nc_i (∃ (n i : Nat) (L : List Nat), n < 4 ∧ v_9 = nI n ∧ inX R_14 n v_10 i ∧ syms R_14.Q.tp = some (L.map nI) ∧ roP (R_14.Q.G n) n L.length) (dC1 R_14 v_9.toNatClampNeg (tNs R_14)))) (sl + (nc_i (∃ n i, n < 4 ∧ v_1 = nI n ∧ i ≤ visN (Q_6.G n) (Q_6.T n) ∧ v_2 = nI i) (nc_inZ kz_5 Q_6 v_1.toNatClampNeg) + 18) + (24 + nc_i (∃ (n i : Nat) (L : List Nat), n < 4 ∧ v_9 = nI n ∧ inX R_14 n v_10 i ∧ syms R_14.Q.tp = some (L.map nI) ∧ roP (R_14.Q.G n) n L.length) (dC2 R_14 v_9.toNatClampNeg (tNs R_14))))))))))))))))))))
  obtain ⟨rc, rs⟩ := room_le hL.1 hI hK (show jn ≤ 64 by omega) hcs hsl
  have hB : BdQ Q := hI.1.bd hL.2.1.bd
  obtain ⟨eG, eT, eK, etp, esl, eft, efo, emp, evw, ehu, eap, ean⟩ := id hI.1
  have gok : ∀ p, p < 4 → (Q.G p).ok := fun p hp => (hI.2.2.2.1 p hp).1.1
  have hb := kzB.of hL.1 hK
  have hpl := pot_le hL.1 hI hK
  have cp : ∀ n, n < 4 → (A.getD (6 * jn + 1) 0) = nI n → (A.getD (6 * jn + 1) 0).toNatClampNeg = n := fun n h1 h2 => by rw [h2]; exact nI_clamp (by omega)
  have pre : (nc_i (∃ n i, n < 4 ∧ (A.getD (6 * jn + 1) 0) = nI n ∧ i ≤ visN (Q.G n) (Q.T n) ∧ (A.getD (6 * jn + 2) 0) = nI i) (nc_inC kz Q (A.getD (6 * jn + 1) 0).toNatClampNeg) + 3) + pCc Q kz ≤ 295540 ∧ (nc_i (∃ n i, n < 4 ∧ (A.getD (6 * jn + 1) 0) = nI n ∧ i ≤ visN (Q.G n) (Q.T n) ∧ (A.getD (6 * jn + 2) 0) = nI i) (nc_inZ kz Q (A.getD (6 * jn + 1) 0).toNatClampNeg) + 18) + pZc Q kz ≤ 4266944 := by
    by_cases w : ∃ n i, n < 4 ∧ (A.getD (6 * jn + 1) 0) = nI n ∧ i ≤ visN (Q.G n) (Q.T n) ∧ (A.getD (6 * jn + 2) 0) = nI i
    · obtain ⟨n, i, n1, n2, -⟩ := id w
      rw [nc_it w, nc_it w, cp n n1 n2]
      have := in_b hI hK hb n1
      omega
    · rw [nc_in w, nc_in w]; omega
  have bad : ∀ w : ¬ (∃ n i, n < 4 ∧ (A.getD (6 * jn + 1) 0) = nI n ∧ i ≤ visN (Q.G n) (Q.T n) ∧ (A.getD (6 * jn + 2) 0) = nI i), (nc_i (∃ n i, n < 4 ∧ (A.getD (6 * jn + 1) 0) = nI n ∧ i ≤ visN (Q.G n) (Q.T n) ∧ (A.getD (6 * jn + 2) 0) = nI i) (nc_inC kz Q (A.getD (6 * jn + 1) 0).toNatClampNeg) + 3 + pCc Q kz ≤ pCc Q kz + 500) ∧ (nc_i (∃ n i, n < 4 ∧ (A.getD (6 * jn + 1) 0) = nI n ∧ i ≤ visN (Q.G n) (Q.T n) ∧ (A.getD (6 * jn + 2) 0) = nI i) (nc_inZ kz Q (A.getD (6 * jn + 1) 0).toNatClampNeg) + 18 + pZc Q kz ≤ pZc Q kz + 4000) := fun w => by
    rw [nc_in w, nc_in w]; omega
  have zer : ∀ n, n < 4 → (A.getD (6 * jn + 1) 0) = nI n → nc_inC kz Q n = 0 → nc_inZ kz Q n = 0 → (nc_i (∃ n i, n < 4 ∧ (A.getD (6 * jn + 1) 0) = nI n ∧ i ≤ visN (Q.G n) (Q.T n) ∧ (A.getD (6 * jn + 2) 0) = nI i) (nc_inC kz Q (A.getD (6 * jn + 1) 0).toNatClampNeg) + 3 + pCc Q kz ≤ pCc Q kz + 500) ∧ (nc_i (∃ n i, n < 4 ∧ (A.getD (6 * jn + 1) 0) = nI n ∧ i ≤ visN (Q.G n) (Q.T n) ∧ (A.getD (6 * jn + 2) 0) = nI i) (nc_inZ kz Q (A.getD (6 * jn + 1) 0).toNatClampNeg) + 18 + pZc Q kz ≤ pZc Q kz + 4000) := fun n n1 n2 z1 z2 => by
    by_cases w : ∃ n i, n < 4 ∧ (A.getD (6 * jn + 1) 0) = nI n ∧ i ≤ visN (Q.G n) (Q.T n) ∧ (A.getD (6 * jn + 2) 0) = nI i
    · rw [nc_it w, nc_it w, cp n n1 n2, z1, z2]; omega
    · exact bad w
  have rpre : (4 + nc_i (∃ (n i : Nat) (L : List Nat), n < 4 ∧ (A.getD (6 * jn + 1) 0) = nI n ∧ inX R n (A.getD (6 * jn + 2) 0) i ∧ syms R.Q.tp = some (L.map nI) ∧ roP (R.Q.G n) n L.length) (dC1 R (A.getD (6 * jn + 1) 0).toNatClampNeg (tNs R))) + pCr R k2 ≤ 213492 ∧ (24 + nc_i (∃ (n i : Nat) (L : List Nat), n < 4 ∧ (A.getD (6 * jn + 1) 0) = nI n ∧ inX R n (A.getD (6 * jn + 2) 0) i ∧ syms R.Q.tp = some (L.map nI) ∧ roP (R.Q.G n) n L.length) (dC2 R (A.getD (6 * jn + 1) 0).toNatClampNeg (tNs R))) + pZr R k2 ≤ 1085344 := by
    by_cases w : ∃ (n i : Nat) (L : List Nat), n < 4 ∧ (A.getD (6 * jn + 1) 0) = nI n ∧ inX R n (A.getD (6 * jn + 2) 0) i ∧ syms R.Q.tp = some (L.map nI) ∧ roP (R.Q.G n) n L.length
    · obtain ⟨n, i, L, n1, n2, -, n4, n5⟩ := id w
      have e : tNs R = L.length := by unfold tNs; rw [n4]; show (L.map nI).length = _; rw [List.length_map]
      rw [nc_it w, nc_it w, cp n n1 n2, e]
      have := or_b hI hK n1 n5
      omega
    · rw [nc_in w, nc_in w]; omega
  have rbad : ∀ w : ¬ (∃ (n i : Nat) (L : List Nat), n < 4 ∧ (A.getD (6 * jn + 1) 0) = nI n ∧ inX R n (A.getD (6 * jn + 2) 0) i ∧ syms R.Q.tp = some (L.map nI) ∧ roP (R.Q.G n) n L.length), (4 + nc_i (∃ (n i : Nat) (L : List Nat), n < 4 ∧ (A.getD (6 * jn + 1) 0) = nI n ∧ inX R n (A.getD (6 * jn + 2) 0) i ∧ syms R.Q.tp = some (L.map nI) ∧ roP (R.Q.G n) n L.length) (dC1 R (A.getD (6 * jn + 1) 0).toNatClampNeg (tNs R)) + pCr R k2 ≤ pCr R k2 + 500) ∧ (24 + nc_i (∃ (n i : Nat) (L : List Nat), n < 4 ∧ (A.getD (6 * jn + 1) 0) = nI n ∧ inX R n (A.getD (6 * jn + 2) 0) i ∧ syms R.Q.tp = some (L.map nI) ∧ roP (R.Q.G n) n L.length) (dC2 R (A.getD (6 * jn + 1) 0).toNatClampNeg (tNs R)) + pZr R k2 ≤ pZr R k2 + 4000) := fun w => by
    rw [nc_in w, nc_in w]; omega
  have fit := fit_x hI hK (show jn ≤ 63 by omega) hcs hsl pre.1 pre.2
  have fr := fit_y (show jn ≤ 63 by omega) hcs hsl pre.1 pre.2 rpre.1 rpre.2
  refine ⟨_, hL.rd (k := 1) (by decide) (by omega) hA, _, hL.rd (k := 2) (by decide) (by omega) hA, rfl, F, X, kz, Q, ⟨⟨hL.1, fun n hn => Nat.le_trans (hb.2.2.2.2.2.2.1 n hn) (by decide)⟩, hL.lwo⟩, by omega, by omega, fun x9 S6 hq => ?_⟩
  have key : ∃ (c : Nat) (v : Int32) (Q1 : Ab) (X1 : Nat → GX) (kz1 : Nat → Nat) (F6 : Nat → Nat × Nat), x9 = nI c ∧ c < 8 ∧ ((c = 0 ∧ ∃ (n i : Nat) (L : List Nat) (G' : Gr) (T' : Tr), n < 4 ∧ (A.getD (6 * jn + 1) 0) = nI n ∧ i ≤ visN (Q.G n) (Q.T n) ∧ (A.getD (6 * jn + 2) 0) = nI i ∧ syms Q.tp = some (L.map nI) ∧ roP (Q.G n) n L.length ∧ Run n (owN (Q.G n) n) (insO i L) (Q.G n) (Q.T n) G' T' ∧ v = nI L.length ∧ Q1 = (Q.sPe n G' T' (if L.length = 0 then Q.E n else Q.E n ++ [((Q.G n).n, L.length)])).sTp []) ∨ (c = 1 ∧ (np 4 (A.getD (6 * jn + 1) 0) ∨ ∃ n, n < 4 ∧ (A.getD (6 * jn + 1) 0) = nI n ∧ np (visN (Q.G n) (Q.T n) + 1) (A.getD (6 * jn + 2) 0)) ∧ Q1 = Q) ∨ (c = 2 ∧ (∃ n i, n < 4 ∧ (A.getD (6 * jn + 1) 0) = nI n ∧ i ≤ visN (Q.G n) (Q.T n) ∧ (A.getD (6 * jn + 2) 0) = nI i) ∧ syms Q.tp = none ∧ Q1 = Q.sTp []) ∨ (c = 3 ∧ (∃ (n i : Nat) (L : List Nat), n < 4 ∧ (A.getD (6 * jn + 1) 0) = nI n ∧ i ≤ visN (Q.G n) (Q.T n) ∧ (A.getD (6 * jn + 2) 0) = nI i ∧ syms Q.tp = some (L.map nI) ∧ ¬ roP (Q.G n) n L.length) ∧ Q1 = Q.sTp [])) ∧ ((nc_i (∃ n i, n < 4 ∧ (A.getD (6 * jn + 1) 0) = nI n ∧ i ≤ visN (Q.G n) (Q.T n) ∧ (A.getD (6 * jn + 2) 0) = nI i) (nc_inC kz Q (A.getD (6 * jn + 1) 0).toNatClampNeg) + 3 + pCc Q kz ≤ pCc Q1 kz1 + 500) ∧ (nc_i (∃ n i, n < 4 ∧ (A.getD (6 * jn + 1) 0) = nI n ∧ i ≤ visN (Q.G n) (Q.T n) ∧ (A.getD (6 * jn + 2) 0) = nI i) (nc_inZ kz Q (A.getD (6 * jn + 1) 0).toNatClampNeg) + 18 + pZc Q kz ≤ pZc Q1 kz1 + 4000) ∧ LIk kz1 k2) ∧ Lw S6 F6 t m o r A X1 kz1 Q1 z Y R k2 ∧ (x9 = 0 → eJ S6 o 0 = v.toInt64) := by
    rcases hq with ⟨rfl, v0, S0, ⟨n, i, L, Q1, X1, kz1, q0, q1, q2, q3, q4, q5, q6, ⟨G', T', X', i1, rfl, rfl, rfl⟩, gW⟩, rfl⟩ | ⟨rfl, rfl, h1⟩ | ⟨rfl, h1, h2, gW⟩ | ⟨rfl, ⟨n, i, L, q0, q1, q2, q3, q4, q5⟩, gW⟩
    · obtain ⟨F6, g1, g2⟩ := hL.ok (v := v0.toInt64) gW
      obtain ⟨e1, e2⟩ := inC_some (kz := kz) (n := n) q4
      rw [nc_t q5] at e1 e2
      have il : (insO i L).length = L.length := insO_len i L
      obtain ⟨g3, g4, g5⟩ := ow_po (L := insO i L) (if L.length = 0 then Q.E n else Q.E n ++ [((Q.G n).n, L.length)]) hI hK q0 (by rw [il]; exact q5) i1 rfl
      rw [il] at g3 g4 g5
      refine ⟨0, v0, _, _, _, F6, rfl, by decide, Or.inl ⟨rfl, n, i, L, G', T', q0, q1, q2, q3, q4, q5, i1, q6, rfl⟩, ⟨?_, ?_, g5⟩, g1, fun _ => g2⟩
      · rw [nc_it ⟨n, i, q0, q1, q2, q3⟩, cp n q0 q1, e1]
        exact Nat.le_trans (Nat.le_of_eq (by omega)) (Nat.le_trans (Nat.add_le_add_right g3 3) (Nat.add_le_add_left (show 4 ≤ 500 by decide) (pCc (Q.sPe n G' T' (if L.length = 0 then Q.E n else Q.E n ++ [((Q.G n).n, L.length)])) (upF kz (30 + n) (if L.length = 0 then kz (30 + n) else alK (kz (30 + n)) (Q.E n).length)))))
      · rw [nc_it ⟨n, i, q0, q1, q2, q3⟩, cp n q0 q1, e2]
        exact Nat.le_trans (Nat.le_of_eq (by omega)) (Nat.le_trans (Nat.add_le_add_right g4 18) (Nat.add_le_add_left (show 20 ≤ 4000 by decide) (pZc (Q.sPe n G' T' (if L.length = 0 then Q.E n else Q.E n ++ [((Q.G n).n, L.length)])) (upF kz (30 + n) (if L.length = 0 then kz (30 + n) else alK (kz (30 + n)) (Q.E n).length)))))
    · obtain ⟨g1, g2⟩ := bad (fun ⟨n, i, n1, n2, n3, n4⟩ => by
        rcases h1 with q | ⟨n', q1, q2, q3⟩
        · exact np_no q n1 n2
        · have e := nI_ij n2 q2 (by omega) (by omega)
          subst e
          exact np_no q3 (by omega) n4)
      exact ⟨1, 0, Q, X, kz, F, rfl, by decide, Or.inr (Or.inl ⟨rfl, h1, rfl⟩), ⟨g1, g2, hK⟩, hL, fun w => absurd w (by decide)⟩
    · obtain ⟨F6, g3, -, -⟩ := hL.cls gW
      obtain ⟨n, i, n1, n2, n3⟩ := id h1
      obtain ⟨g1, g2⟩ := zer n n1 n2 (by unfold nc_inC; rw [h2]) (by unfold nc_inZ; rw [h2])
      exact ⟨2, 0, _, X, kz, F6, rfl, by decide, Or.inr (Or.inr (Or.inl ⟨rfl, h1, h2, rfl⟩)), ⟨g1, g2, hK⟩, g3, fun w => absurd w (by decide)⟩
    · obtain ⟨F6, g3, -, -⟩ := hL.cls gW
      obtain ⟨e1, e2⟩ := inC_some (kz := kz) (n := n) q4
      rw [nc_f q5] at e1 e2
      obtain ⟨g1, g2⟩ := zer n q0 q1 e1 e2
      exact ⟨3, 0, _, X, kz, F6, rfl, by decide, Or.inr (Or.inr (Or.inr ⟨rfl, ⟨n, i, L, q0, q1, q2, q3, q4, q5⟩, rfl⟩)), ⟨g1, g2, hK⟩, g3, fun w => absurd w (by decide)⟩
  obtain ⟨c, v, Q1, X1, kz1, F6, hx, hc8, hc, ⟨p1, p2, hK1⟩, hL6, hv⟩ := key
  refine ⟨_, hL6.rd (k := 1) (by decide) (by omega) hA, _, hL6.rd (k := 2) (by decide) (by omega) hA, rfl, F6, z, Y, R, k2, ⟨hL6.2.1, hI.abc⟩, by omega, by omega, fun v9 S9 hr => ?_⟩
  have key2 : ∃ (th : Nat) (R1 : Rb), ((th = 0 ∧ ∃ (n i : Nat) (L : List Nat) (G' : Gr) (T' : Tr), n < 4 ∧ (A.getD (6 * jn + 1) 0) = nI n ∧ (i ≤ visN (R.Q.G n) (R.Q.T n) ∧ (A.getD (6 * jn + 2) 0) = nI i) ∧ syms R.Q.tp = some (L.map nI) ∧ roP (R.Q.G n) n L.length ∧ Run n (owN (R.Q.G n) n) (insO i L) (R.Q.G n) (R.Q.T n) G' T' ∧ v9 = nI L.length ∧ R1 = inN R n G' T' L.length) ∨ (th = 1 ∧ (np 4 (A.getD (6 * jn + 1) 0) ∨ ∃ n, n < 4 ∧ (A.getD (6 * jn + 1) 0) = nI n ∧ np (visN (R.Q.G n) (R.Q.T n) + 1) (A.getD (6 * jn + 2) 0)) ∧ R1 = R) ∨ (th = 2 ∧ (∃ n i, n < 4 ∧ (A.getD (6 * jn + 1) 0) = nI n ∧ (i ≤ visN (R.Q.G n) (R.Q.T n) ∧ (A.getD (6 * jn + 2) 0) = nI i)) ∧ syms R.Q.tp = none ∧ R1 = rtE R) ∨ (th = 3 ∧ (∃ (n i : Nat) (L : List Nat), n < 4 ∧ (A.getD (6 * jn + 1) 0) = nI n ∧ (i ≤ visN (R.Q.G n) (R.Q.T n) ∧ (A.getD (6 * jn + 2) 0) = nI i) ∧ syms R.Q.tp = some (L.map nI) ∧ ¬ roP (R.Q.G n) n L.length) ∧ R1 = rtE R)) ∧ ((4 + nc_i (∃ (n i : Nat) (L : List Nat), n < 4 ∧ (A.getD (6 * jn + 1) 0) = nI n ∧ inX R n (A.getD (6 * jn + 2) 0) i ∧ syms R.Q.tp = some (L.map nI) ∧ roP (R.Q.G n) n L.length) (dC1 R (A.getD (6 * jn + 1) 0).toNatClampNeg (tNs R)) + pCr R k2 ≤ pCr R1 k2 + 500) ∧ (24 + nc_i (∃ (n i : Nat) (L : List Nat), n < 4 ∧ (A.getD (6 * jn + 1) 0) = nI n ∧ inX R n (A.getD (6 * jn + 2) 0) i ∧ syms R.Q.tp = some (L.map nI) ∧ roP (R.Q.G n) n L.length) (dC2 R (A.getD (6 * jn + 1) 0).toNatClampNeg (tNs R)) + pZr R k2 ≤ pZr R1 k2 + 4000)) ∧ mdW S6 S9 F6 m R1 k2 th := by
    rcases hr with ⟨n, i, L, G', T', q0, q1, q2, q3, q4, q5, q6, gW⟩ | ⟨h1, q1, gW⟩ | ⟨h1, h2, gW, q1⟩ | ⟨h1, gW, q1⟩
    · have e : tNs R = L.length := by unfold tNs; rw [q3]; show (L.map nI).length = _; rw [List.length_map]
      have il : (insO i L).length = L.length := insO_len i L
      obtain ⟨g3, g4⟩ := or_po (k2 := k2) (L := insO i L) (R.Q.Kn n) (if L.length = 0 then R.C n else R.C n ++ [(true, (agE (R.Q.G n) n).length, L.length)]) hI q0 (by rw [il]; exact q4) q5
      rw [il] at g3 g4
      refine ⟨0, _, Or.inl ⟨rfl, n, i, L, G', T', q0, q1, q2, q3, q4, q5, q6, rfl⟩, ⟨?_, ?_⟩, gW⟩
      · rw [nc_it ⟨n, i, L, q0, q1, q2, q3, q4⟩, cp n q0 q1, e]
        exact Nat.le_trans (Nat.le_of_eq (by omega)) (Nat.le_trans (Nat.add_le_add_right (Nat.le_of_eq g3) 4) (Nat.add_le_add_left (show 4 ≤ 500 by decide) (pCr (R.sP n G' T' (R.Q.Kn n) (if L.length = 0 then R.C n else R.C n ++ [(true, (agE (R.Q.G n) n).length, L.length)])) k2)))
      · rw [nc_it ⟨n, i, L, q0, q1, q2, q3, q4⟩, cp n q0 q1, e]
        exact Nat.le_trans (Nat.le_of_eq (by omega)) (Nat.le_trans (Nat.add_le_add_right (Nat.le_of_eq g4) 24) (Nat.add_le_add_left (show 24 ≤ 4000 by decide) (pZr (R.sP n G' T' (R.Q.Kn n) (if L.length = 0 then R.C n else R.C n ++ [(true, (agE (R.Q.G n) n).length, L.length)])) k2)))
    · have rb := rbad (fun ⟨n, i, L, n1, n2, n3, n4, n5⟩ => by
        rcases h1 with q | ⟨n', q1, q2, q3⟩
        · exact np_no q n1 n2
        · have e := nI_ij n2 q2 (by omega) (by omega)
          subst e
          have := n3.1
          exact np_no q3 (by omega) n3.2)
      exact ⟨1, R, Or.inr (Or.inl ⟨rfl, h1, rfl⟩), rb, gW⟩
    · have rb := rbad (fun ⟨n, i, L, n1, n2, n3, n4, n5⟩ => by rw [h2] at n4; cases n4)
      exact ⟨2, rtE R, Or.inr (Or.inr (Or.inl ⟨rfl, h1, h2, rfl⟩)), rb, gW⟩
    · have rb := rbad (fun ⟨n, i, L, n1, n2, n3, n4, n5⟩ => by
        obtain ⟨n', i', L', a1, a2, a3, a4, a5⟩ := h1
        have e := nI_ij n2 a2 (by omega) (by omega)
        subst e
        rw [n4] at a4
        injection a4 with q
        have := congrArg List.length q
        rw [List.length_map, List.length_map] at this
        rw [this] at n5
        exact a5 n5)
      exact ⟨3, rtE R, Or.inr (Or.inr (Or.inr ⟨rfl, h1, rfl⟩)), rb, gW⟩
  obtain ⟨th, R1, hr, ⟨r1, r2⟩, hw⟩ := key2
  obtain ⟨F9, z9, Y9, hL9, hth, -, hj9⟩ := hL6.ref hw
  obtain ⟨a1, a2, hI1⟩ := ag_ins hI hB hc hr
  refine lw_cmp hL9 (by rw [hth, a1, ← hx]) (fun w => ?_) (by omega) (by omega) (nx_k hk hj hA hL9 hI1 hK1 hcs hsl p1 p2 r1 r2 (by omega) (by omega))
  rw [hj9, hv w, a2 (nI_z hc8 (hx.symm.trans w))]
