/-! ===== The law: delete ===== -/
theorem ag_del {Q Q1 : Ab} {R R1 : Rb} {p x y v v' : Int32} {c th : Nat} (hI : LIv Q R) (hB : BdQ Q) (hc : ((c = 0 ∧ ∃ (n i m : Nat) (G' : Gr) (T' : Tr), n < 4 ∧ p = nI n ∧ dlOk Q n x y i m ∧ roP (Q.G n) n m ∧ Run n (owN (Q.G n) n) (List.replicate m (none, i)) (Q.G n) (Q.T n) G' T' ∧ v = nI (visN G' T') ∧ Q1 = Q.sPe n G' T' (Q.E n ++ [((Q.G n).n, m)])) ∨ (c = 1 ∧ (np 4 p ∨ ∃ n, n < 4 ∧ p = nI n ∧ ¬ ∃ i m, dlOk Q n x y i m) ∧ Q1 = Q) ∨ (c = 2 ∧ (∃ n i m, n < 4 ∧ p = nI n ∧ dlOk Q n x y i m ∧ ¬ roP (Q.G n) n m) ∧ Q1 = Q))) (hr : ((th = 0 ∧ ∃ (n i m : Nat) (G' : Gr) (T' : Tr), n < 4 ∧ p = nI n ∧ dlOk R.Q n x y i m ∧ roP (R.Q.G n) n m ∧ Run n (owN (R.Q.G n) n) (List.replicate m (none, i)) (R.Q.G n) (R.Q.T n) G' T' ∧ v' = nI (visN G' T') ∧ R1 = R.sP n G' T' (R.Q.Kn n) (R.C n ++ [(false, (agE (R.Q.G n) n).length, m)])) ∨ (th = 1 ∧ (np 4 p ∨ ∃ n, n < 4 ∧ p = nI n ∧ ¬ ∃ i m, dlOk R.Q n x y i m) ∧ R1 = R) ∨ (th = 2 ∧ (∃ n i m, n < 4 ∧ p = nI n ∧ dlOk R.Q n x y i m ∧ ¬ roP (R.Q.G n) n m) ∧ R1 = R))) : th = c ∧ (c = 0 → v' = v) ∧ LIv Q1 R1 := by
  obtain ⟨eG, eT, eK, etp, esl, eft, efo, emp, evw, ehu, eap, ean⟩ := id hI.1
  have ed : ∀ n i m, dlOk R.Q n x y i m ↔ dlOk Q n x y i m := fun n i m => by unfold dlOk; rw [eG, eT]
  rcases hc with ⟨h0, n, i, m, G1, T1, h1, h2, h3, h4, h5, h6, rfl⟩ | ⟨h0, h1, rfl⟩ | ⟨h0, ⟨n, i, m, h1, h2, h3, h4⟩, rfl⟩ <;> rcases hr with ⟨g0, n', i', m', G2, T2, g1, g2, g3, g4, g5, g6, rfl⟩ | ⟨g0, g1, rfl⟩ | ⟨g0, ⟨n', i', m', g1, g2, g3, g4⟩, rfl⟩
  · rw [eG, eT] at g5
    obtain ⟨rfl, rfl, rfl, rfl, rfl⟩ := ag_de hB h1 h2 h3 h5 g1 g2 ((ed _ _ _).1 g3) g5
    exact ⟨by omega, fun _ => g6.trans h6.symm, hI.del h1 h3.1 h4 h5⟩
  · rcases g1 with q | ⟨n', q1, q2, q3⟩
    · exact (np_no q h1 h2).elim
    · have e := nI_ij h2 q2 (by omega) (by omega)
      subst e
      exact (q3 ⟨i, m, (ed _ _ _).2 h3⟩).elim
  · have e := nI_ij h2 g2 (by omega) (by omega)
    subst e
    obtain ⟨rfl, rfl⟩ := dl_uq hB h1 h3 ((ed _ _ _).1 g3)
    rw [eG] at g4
    exact absurd h4 g4
  · rcases h1 with q | ⟨n, q1, q2, q3⟩
    · exact (np_no q g1 g2).elim
    · have e := nI_ij g2 q2 (by omega) (by omega)
      subst e
      exact (q3 ⟨i', m', (ed _ _ _).1 g3⟩).elim
  · exact ⟨by omega, fun q => by omega, hI⟩
  · rcases h1 with q | ⟨n, q1, q2, q3⟩
    · exact (np_no q g1 g2).elim
    · have e := nI_ij g2 q2 (by omega) (by omega)
      subst e
      exact (q3 ⟨i', m', (ed _ _ _).1 g3⟩).elim
  · have e := nI_ij h2 g2 (by omega) (by omega)
    subst e
    obtain ⟨rfl, rfl⟩ := dl_uq hB h1 h3 ((ed _ _ _).1 g3)
    rw [eG] at g4
    exact absurd g4 h4
  · rcases g1 with q | ⟨n', q1, q2, q3⟩
    · exact (np_no q h1 h2).elim
    · have e := nI_ij h2 q2 (by omega) (by omega)
      subst e
      exact (q3 ⟨i, m, (ed _ _ _).2 h3⟩).elim
  · exact ⟨by omega, fun q => by omega, hI⟩
set_option maxRecDepth 100000 in
set_option maxHeartbeats 2000000 in
theorem lwc_dl {r k : Nat} {A : List Int32} {lo : List (Nat × MV)} {st : List MV} {S1 : MM} {cs sl : Nat} (h : I_lc r A k lo st S1 cs sl) : GoL k r A 384 lo st S1 cs sl := by
  obtain ⟨jn, t, mo, o, F, X, kz, Q, z, Y, R, k2, hk, hj, hA, ⟨hL, hI, hK, hcs, hsl⟩, rfl, rfl⟩ := h
  refine ⟨300, ?_⟩
  show (∃ v_1 : Int32, (r = r ∧ vp_in ((nI (6 * jn)) + (1 : Int32)) A.length ∧ v_1 = A.getD ((nI (6 * jn)) + (1 : Int32)).toNatClampNeg 0) ∧ (∃ v_2 : Int32, (r = r ∧ vp_in ((nI (6 * jn)) + (2 : Int32)) A.length ∧ v_2 = A.getD ((nI (6 * jn)) + (2 : Int32)).toNatClampNeg 0) ∧ (∃ v_3 : Int32, (r = r ∧ vp_in ((nI (6 * jn)) + (3 : Int32)) A.length ∧ v_3 = A.getD ((nI (6 * jn)) + (3 : Int32)).toNatClampNeg 0) ∧ (2 = 2 ∧ (∃ (F_4 : Nat → Nat × Nat) (X_5 : Nat → GX) (kz_6 : Nat → Nat) (Q_7 : Ab), ((WT S1 F_4 t X_5 kz_6 Q_7 ∧ AbE kz_6) ∧ lwO S1 F_4 o) ∧ cs + (nc_i (∃ n i m, n < 4 ∧ v_1 = nI n ∧ dlOk Q_7 n v_2 v_3 i m) (nc_dlC kz_6 Q_7 v_1.toNatClampNeg v_3.toNatClampNeg) + 3) ≤ 600128 ∧ sl + (nc_i (∃ n i m, n < 4 ∧ v_1 = nI n ∧ dlOk Q_7 n v_2 v_3 i m) (nc_dlZ kz_6 Q_7 v_1.toNatClampNeg v_3.toNatClampNeg) + 18) ≤ 7301098 ∧ (∀ (x_9 : Int32) (S_8 : MM), ((x_9 = 0 ∧ ∃ (v0 : Int32) (S0 : MM), (∃ (n i m : Nat) (Q1 : Ab) (X1 : Nat → GX) (kz1 : Nat → Nat), n < 4 ∧ v_1 = nI n ∧ dlOk Q_7 n v_2 v_3 i m ∧ roP (Q_7.G n) n m ∧ opR Q_7 X_5 kz_6 n (List.replicate m (none, i)) Q1 X1 kz1 ∧ v0 = nI (visN (Q1.G n) (Q1.T n)) ∧ wtQ S1 S0 F_4 t X1 kz1 Q1) ∧ S_8 = loJ S0 o v0.toInt64) ∨ (x_9 = 1 ∧ S_8 = S1 ∧ (np 4 v_1 ∨ ∃ n, n < 4 ∧ v_1 = nI n ∧ ¬ ∃ i m, dlOk Q_7 n v_2 v_3 i m)) ∨ (x_9 = 2 ∧ S_8 = S1 ∧ (∃ n i m, n < 4 ∧ v_1 = nI n ∧ dlOk Q_7 n v_2 v_3 i m ∧ ¬ roP (Q_7.G n) n m))) → (∃ v_10 : Int32, (r = r ∧ vp_in ((nI (6 * jn)) + (1 : Int32)) A.length ∧ v_10 = A.getD ((nI (6 * jn)) + (1 : Int32)).toNatClampNeg 0) ∧ (∃ v_11 : Int32, (r = r ∧ vp_in ((nI (6 * jn)) + (2 : Int32)) A.length ∧ v_11 = A.getD ((nI (6 * jn)) + (2 : Int32)).toNatClampNeg 0) ∧ (∃ v_12 : Int32, (r = r ∧ vp_in ((nI (6 * jn)) + (3 : Int32)) A.length ∧ v_12 = A.getD ((nI (6 * jn)) + (3 : Int32)).toNatClampNeg 0) ∧ (0 = 0 ∧ (∃ (F_13 : Nat → Nat × Nat) (z_14 : Nat → Nat) (Y_15 : Nat → Nat → Nat) (R_16 : Rb) (kz_17 : Nat → Nat), (MD S_8 F_13 mo z_14 Y_15 R_16 kz_17 ∧ AbC R_16) ∧ cs + (nc_i (∃ n i m, n < 4 ∧ v_1 = nI n ∧ dlOk Q_7 n v_2 v_3 i m) (nc_dlC kz_6 Q_7 v_1.toNatClampNeg v_3.toNatClampNeg) + 3) + (3 + nc_i (∃ n i m, n < 4 ∧ v_10 = nI n ∧ dlOk R_16.Q n v_11 v_12 i m ∧ roP (R_16.Q.G n) n m) (dC1 R_16 v_10.toNatClampNeg v_12.toNatClampNeg)) ≤ 600128 ∧ sl + (nc_i (∃ n i m, n < 4 ∧ v_1 = nI n ∧ dlOk Q_7 n v_2 v_3 i m) (nc_dlZ kz_6 Q_7 v_1.toNatClampNeg v_3.toNatClampNeg) + 18) + (18 + nc_i (∃ n i m, n < 4 ∧ v_10 = nI n ∧ dlOk R_16.Q n v_11 v_12 i m ∧ roP (R_16.Q.G n) n m) (dC2 R_16 v_10.toNatClampNeg v_12.toNatClampNeg)) ≤ 7301098 ∧ (∀ (x_19 : Int32) (S_18 : MM), ((∃ n i m G' T', n < 4 ∧ v_10 = nI n ∧ dlOk R_16.Q n v_11 v_12 i m ∧ roP (R_16.Q.G n) n m ∧ Run n (owN (R_16.Q.G n) n) (List.replicate m (none, i)) (R_16.Q.G n) (R_16.Q.T n) G' T' ∧ x_19 = nI (visN G' T') ∧ mdW S_8 S_18 F_13 mo (R_16.sP n G' T' (R_16.Q.Kn n) (R_16.C n ++ [(false, (agE (R_16.Q.G n) n).length, m)])) kz_17 0) ∨ ((np 4 v_10 ∨ ∃ n, n < 4 ∧ v_10 = nI n ∧ ¬ ∃ i m, dlOk R_16.Q n v_11 v_12 i m) ∧ x_19 = 0 ∧ mdW S_8 S_18 F_13 mo R_16 kz_17 1) ∨ ((∃ n i m, n < 4 ∧ v_10 = nI n ∧ dlOk R_16.Q n v_11 v_12 i m ∧ ¬ roP (R_16.Q.G n) n m) ∧ x_19 = 0 ∧ mdW S_8 S_18 F_13 mo R_16 kz_17 2)) → (0 = 0 ∧ (∃ (v9_20 : Int32), (isO S_18 15 mo ∧ mI S_18 1551 mo = v9_20) ∧ cs + (nc_i (∃ n i m, n < 4 ∧ v_1 = nI n ∧ dlOk Q_7 n v_2 v_3 i m) (nc_dlC kz_6 Q_7 v_1.toNatClampNeg v_3.toNatClampNeg) + 3) + (3 + nc_i (∃ n i m, n < 4 ∧ v_10 = nI n ∧ dlOk R_16.Q n v_11 v_12 i m ∧ roP (R_16.Q.G n) n m) (dC1 R_16 v_10.toNatClampNeg v_12.toNatClampNeg)) ≤ 600128 ∧ sl + (nc_i (∃ n i m, n < 4 ∧ v_1 = nI n ∧ dlOk Q_7 n v_2 v_3 i m) (nc_dlZ kz_6 Q_7 v_1.toNatClampNeg v_3.toNatClampNeg) + 18) + (18 + nc_i (∃ n i m, n < 4 ∧ v_10 = nI n ∧ dlOk R_16.Q n v_11 v_12 i m ∧ roP (R_16.Q.G n) n m) (dC2 R_16 v_10.toNatClampNeg v_12.toNatClampNeg)) ≤ 7301098 ∧ (((v9_20 = x_9 → ((¬ x_9 = 0 → (∃ k1, k1 < k ∧ I_nx r A k1 [(0, .inr (.inr (some r))), (1, .inr (.inr (some t))), (2, .inr (.inr (some mo))), (3, .inr (.inr (some o))), (4, .inl (nI (6 * jn)))] [] S_18 (cs + (nc_i (∃ n i m, n < 4 ∧ v_1 = nI n ∧ dlOk Q_7 n v_2 v_3 i m) (nc_dlC kz_6 Q_7 v_1.toNatClampNeg v_3.toNatClampNeg) + 3) + (3 + nc_i (∃ n i m, n < 4 ∧ v_10 = nI n ∧ dlOk R_16.Q n v_11 v_12 i m ∧ roP (R_16.Q.G n) n m) (dC1 R_16 v_10.toNatClampNeg v_12.toNatClampNeg))) (sl + (nc_i (∃ n i m, n < 4 ∧ v_1 = nI n ∧ dlOk Q_7 n v_2 v_3 i m) (nc_dlZ kz_6 Q_7 v_1.toNatClampNeg v_3.toNatClampNeg) + 18) + (18 + nc_i (∃ n i m, n < 4 ∧ v_10 = nI n ∧ dlOk R_16.Q n v_11 v_12 i m ∧ roP (R_16.Q.G n) n m) (dC2 R_16 v_10.toNatClampNeg v_12.toNatClampNeg))))) ∧ (x_9 = 0 → (isO S_18 18 o ∧ inR S_18 o (0 : Int32) ∧ (((lg_cmp (eJ S_18 o (0 : Int32).toNatClampNeg) x_19.toInt64) = 0 → (∃ k1, k1 < k ∧ I_nx r A k1 [(0, .inr (.inr (some r))), (1, .inr (.inr (some t))), (2, .inr (.inr (some mo))), (3, .inr (.inr (some o))), (4, .inl (nI (6 * jn)))] [] S_18 (cs + (nc_i (∃ n i m, n < 4 ∧ v_1 = nI n ∧ dlOk Q_7 n v_2 v_3 i m) (nc_dlC kz_6 Q_7 v_1.toNatClampNeg v_3.toNatClampNeg) + 3) + (3 + nc_i (∃ n i m, n < 4 ∧ v_10 = nI n ∧ dlOk R_16.Q n v_11 v_12 i m ∧ roP (R_16.Q.G n) n m) (dC1 R_16 v_10.toNatClampNeg v_12.toNatClampNeg))) (sl + (nc_i (∃ n i m, n < 4 ∧ v_1 = nI n ∧ dlOk Q_7 n v_2 v_3 i m) (nc_dlZ kz_6 Q_7 v_1.toNatClampNeg v_3.toNatClampNeg) + 18) + (18 + nc_i (∃ n i m, n < 4 ∧ v_10 = nI n ∧ dlOk R_16.Q n v_11 v_12 i m ∧ roP (R_16.Q.G n) n m) (dC2 R_16 v_10.toNatClampNeg v_12.toNatClampNeg))))) ∧ (¬ (lg_cmp (eJ S_18 o (0 : Int32).toNatClampNeg) x_19.toInt64) = 0 → (([] : List MV) = [] ∧ retL (some (.inl (0 : Int32))) S_18 (cs + (nc_i (∃ n i m, n < 4 ∧ v_1 = nI n ∧ dlOk Q_7 n v_2 v_3 i m) (nc_dlC kz_6 Q_7 v_1.toNatClampNeg v_3.toNatClampNeg) + 3) + (3 + nc_i (∃ n i m, n < 4 ∧ v_10 = nI n ∧ dlOk R_16.Q n v_11 v_12 i m ∧ roP (R_16.Q.G n) n m) (dC1 R_16 v_10.toNatClampNeg v_12.toNatClampNeg))) (sl + (nc_i (∃ n i m, n < 4 ∧ v_1 = nI n ∧ dlOk Q_7 n v_2 v_3 i m) (nc_dlZ kz_6 Q_7 v_1.toNatClampNeg v_3.toNatClampNeg) + 18) + (18 + nc_i (∃ n i m, n < 4 ∧ v_10 = nI n ∧ dlOk R_16.Q n v_11 v_12 i m ∧ roP (R_16.Q.G n) n m) (dC2 R_16 v_10.toNatClampNeg v_12.toNatClampNeg)))))))))) ∧ (¬ v9_20 = x_9 → (([] : List MV) = [] ∧ retL (some (.inl (0 : Int32))) S_18 (cs + (nc_i (∃ n i m, n < 4 ∧ v_1 = nI n ∧ dlOk Q_7 n v_2 v_3 i m) (nc_dlC kz_6 Q_7 v_1.toNatClampNeg v_3.toNatClampNeg) + 3) + (3 + nc_i (∃ n i m, n < 4 ∧ v_10 = nI n ∧ dlOk R_16.Q n v_11 v_12 i m ∧ roP (R_16.Q.G n) n m) (dC1 R_16 v_10.toNatClampNeg v_12.toNatClampNeg))) (sl + (nc_i (∃ n i m, n < 4 ∧ v_1 = nI n ∧ dlOk Q_7 n v_2 v_3 i m) (nc_dlZ kz_6 Q_7 v_1.toNatClampNeg v_3.toNatClampNeg) + 18) + (18 + nc_i (∃ n i m, n < 4 ∧ v_10 = nI n ∧ dlOk R_16.Q n v_11 v_12 i m ∧ roP (R_16.Q.G n) n m) (dC2 R_16 v_10.toNatClampNeg v_12.toNatClampNeg)))))))))))))))))))))
  obtain ⟨rc, rs⟩ := room_le hL.1 hI hK (show jn ≤ 64 by omega) hcs hsl
  have hB : BdQ Q := hI.1.bd hL.2.1.bd
  obtain ⟨eG, eT, eK, etp, esl, eft, efo, emp, evw, ehu, eap, ean⟩ := id hI.1
  have gok : ∀ p, p < 4 → (Q.G p).ok := fun p hp => (hI.2.2.2.1 p hp).1.1
  have hb := kzB.of hL.1 hK
  have hpl := pot_le hL.1 hI hK
  have ed : ∀ n i m, dlOk R.Q n (A.getD (6 * jn + 2) 0) (A.getD (6 * jn + 3) 0) i m ↔ dlOk Q n (A.getD (6 * jn + 2) 0) (A.getD (6 * jn + 3) 0) i m := fun n i m => by unfold dlOk; rw [eG, eT]
  have cp : ∀ n, n < 4 → (A.getD (6 * jn + 1) 0) = nI n → (A.getD (6 * jn + 1) 0).toNatClampNeg = n := fun n h1 h2 => by rw [h2]; exact nI_clamp (by omega)
  have cy : ∀ n i m, n < 4 → dlOk Q n (A.getD (6 * jn + 2) 0) (A.getD (6 * jn + 3) 0) i m → (A.getD (6 * jn + 3) 0).toNatClampNeg = m := fun n i m h1 h2 => by
    have := (hB.1 n h1).2
    have := h2.2.1
    rw [h2.2.2.2]; exact nI_clamp (by omega)
  have dlu : ∀ n i m n' i' m', n < 4 → (A.getD (6 * jn + 1) 0) = nI n → dlOk Q n (A.getD (6 * jn + 2) 0) (A.getD (6 * jn + 3) 0) i m → n' < 4 → (A.getD (6 * jn + 1) 0) = nI n' → dlOk Q n' (A.getD (6 * jn + 2) 0) (A.getD (6 * jn + 3) 0) i' m' → n = n' ∧ i = i' ∧ m = m' := fun n i m n' i' m' a1 a2 a3 b1 b2 b3 => by
    have e := nI_ij a2 b2 (by omega) (by omega)
    subst e
    exact ⟨rfl, dl_uq hB a1 a3 b3⟩
  have pre : (nc_i (∃ n i m, n < 4 ∧ (A.getD (6 * jn + 1) 0) = nI n ∧ dlOk Q n (A.getD (6 * jn + 2) 0) (A.getD (6 * jn + 3) 0) i m) (nc_dlC kz Q (A.getD (6 * jn + 1) 0).toNatClampNeg (A.getD (6 * jn + 3) 0).toNatClampNeg) + 3) + pCc Q kz ≤ 295540 ∧ (nc_i (∃ n i m, n < 4 ∧ (A.getD (6 * jn + 1) 0) = nI n ∧ dlOk Q n (A.getD (6 * jn + 2) 0) (A.getD (6 * jn + 3) 0) i m) (nc_dlZ kz Q (A.getD (6 * jn + 1) 0).toNatClampNeg (A.getD (6 * jn + 3) 0).toNatClampNeg) + 18) + pZc Q kz ≤ 4266944 := by
    by_cases w : ∃ n i m, n < 4 ∧ (A.getD (6 * jn + 1) 0) = nI n ∧ dlOk Q n (A.getD (6 * jn + 2) 0) (A.getD (6 * jn + 3) 0) i m
    · obtain ⟨n, i, m', n1, n2, n3⟩ := id w
      rw [nc_it w, nc_it w, cp n n1 n2, cy n i m' n1 n3]
      unfold nc_dlC nc_dlZ
      by_cases c : roP (Q.G n) n m'
      · rw [nc_t c, nc_t c]
        have := ow_b hI hK hb n1 c
        omega
      · rw [nc_f c, nc_f c]; omega
    · rw [nc_in w, nc_in w]; omega
  have bad : ∀ w : ¬ (∃ n i m, n < 4 ∧ (A.getD (6 * jn + 1) 0) = nI n ∧ dlOk Q n (A.getD (6 * jn + 2) 0) (A.getD (6 * jn + 3) 0) i m), (nc_i (∃ n i m, n < 4 ∧ (A.getD (6 * jn + 1) 0) = nI n ∧ dlOk Q n (A.getD (6 * jn + 2) 0) (A.getD (6 * jn + 3) 0) i m) (nc_dlC kz Q (A.getD (6 * jn + 1) 0).toNatClampNeg (A.getD (6 * jn + 3) 0).toNatClampNeg) + 3 + pCc Q kz ≤ pCc Q kz + 500) ∧ (nc_i (∃ n i m, n < 4 ∧ (A.getD (6 * jn + 1) 0) = nI n ∧ dlOk Q n (A.getD (6 * jn + 2) 0) (A.getD (6 * jn + 3) 0) i m) (nc_dlZ kz Q (A.getD (6 * jn + 1) 0).toNatClampNeg (A.getD (6 * jn + 3) 0).toNatClampNeg) + 18 + pZc Q kz ≤ pZc Q kz + 4000) := fun w => by
    rw [nc_in w, nc_in w]; omega
  have rpre : (3 + nc_i (∃ n i m, n < 4 ∧ (A.getD (6 * jn + 1) 0) = nI n ∧ dlOk R.Q n (A.getD (6 * jn + 2) 0) (A.getD (6 * jn + 3) 0) i m ∧ roP (R.Q.G n) n m) (dC1 R (A.getD (6 * jn + 1) 0).toNatClampNeg (A.getD (6 * jn + 3) 0).toNatClampNeg)) + pCr R k2 ≤ 213492 ∧ (18 + nc_i (∃ n i m, n < 4 ∧ (A.getD (6 * jn + 1) 0) = nI n ∧ dlOk R.Q n (A.getD (6 * jn + 2) 0) (A.getD (6 * jn + 3) 0) i m ∧ roP (R.Q.G n) n m) (dC2 R (A.getD (6 * jn + 1) 0).toNatClampNeg (A.getD (6 * jn + 3) 0).toNatClampNeg)) + pZr R k2 ≤ 1085344 := by
    by_cases w : ∃ n i m, n < 4 ∧ (A.getD (6 * jn + 1) 0) = nI n ∧ dlOk R.Q n (A.getD (6 * jn + 2) 0) (A.getD (6 * jn + 3) 0) i m ∧ roP (R.Q.G n) n m
    · obtain ⟨n, i, m', n1, n2, n3, n4⟩ := id w
      rw [nc_it w, nc_it w, cp n n1 n2, cy n i m' n1 ((ed _ _ _).1 n3)]
      have := or_b hI hK n1 n4
      omega
    · rw [nc_in w, nc_in w]; omega
  have rbad : ∀ w : ¬ (∃ n i m, n < 4 ∧ (A.getD (6 * jn + 1) 0) = nI n ∧ dlOk R.Q n (A.getD (6 * jn + 2) 0) (A.getD (6 * jn + 3) 0) i m ∧ roP (R.Q.G n) n m), (3 + nc_i (∃ n i m, n < 4 ∧ (A.getD (6 * jn + 1) 0) = nI n ∧ dlOk R.Q n (A.getD (6 * jn + 2) 0) (A.getD (6 * jn + 3) 0) i m ∧ roP (R.Q.G n) n m) (dC1 R (A.getD (6 * jn + 1) 0).toNatClampNeg (A.getD (6 * jn + 3) 0).toNatClampNeg) + pCr R k2 ≤ pCr R k2 + 500) ∧ (18 + nc_i (∃ n i m, n < 4 ∧ (A.getD (6 * jn + 1) 0) = nI n ∧ dlOk R.Q n (A.getD (6 * jn + 2) 0) (A.getD (6 * jn + 3) 0) i m ∧ roP (R.Q.G n) n m) (dC2 R (A.getD (6 * jn + 1) 0).toNatClampNeg (A.getD (6 * jn + 3) 0).toNatClampNeg) + pZr R k2 ≤ pZr R k2 + 4000) := fun w => by
    rw [nc_in w, nc_in w]; omega
  have fit := fit_x hI hK (show jn ≤ 63 by omega) hcs hsl pre.1 pre.2
  have fr := fit_y (show jn ≤ 63 by omega) hcs hsl pre.1 pre.2 rpre.1 rpre.2
  refine ⟨_, hL.rd (k := 1) (by decide) (by omega) hA, _, hL.rd (k := 2) (by decide) (by omega) hA, _, hL.rd (k := 3) (by decide) (by omega) hA, rfl, F, X, kz, Q, ⟨⟨hL.1, fun n hn => Nat.le_trans (hb.2.2.2.2.2.2.1 n hn) (by decide)⟩, hL.lwo⟩, by omega, by omega, fun x9 S6 hq => ?_⟩
  have key : ∃ (c : Nat) (v : Int32) (Q1 : Ab) (X1 : Nat → GX) (kz1 : Nat → Nat) (F6 : Nat → Nat × Nat), x9 = nI c ∧ c < 8 ∧ ((c = 0 ∧ ∃ (n i m : Nat) (G' : Gr) (T' : Tr), n < 4 ∧ (A.getD (6 * jn + 1) 0) = nI n ∧ dlOk Q n (A.getD (6 * jn + 2) 0) (A.getD (6 * jn + 3) 0) i m ∧ roP (Q.G n) n m ∧ Run n (owN (Q.G n) n) (List.replicate m (none, i)) (Q.G n) (Q.T n) G' T' ∧ v = nI (visN G' T') ∧ Q1 = Q.sPe n G' T' (Q.E n ++ [((Q.G n).n, m)])) ∨ (c = 1 ∧ (np 4 (A.getD (6 * jn + 1) 0) ∨ ∃ n, n < 4 ∧ (A.getD (6 * jn + 1) 0) = nI n ∧ ¬ ∃ i m, dlOk Q n (A.getD (6 * jn + 2) 0) (A.getD (6 * jn + 3) 0) i m) ∧ Q1 = Q) ∨ (c = 2 ∧ (∃ n i m, n < 4 ∧ (A.getD (6 * jn + 1) 0) = nI n ∧ dlOk Q n (A.getD (6 * jn + 2) 0) (A.getD (6 * jn + 3) 0) i m ∧ ¬ roP (Q.G n) n m) ∧ Q1 = Q)) ∧ ((nc_i (∃ n i m, n < 4 ∧ (A.getD (6 * jn + 1) 0) = nI n ∧ dlOk Q n (A.getD (6 * jn + 2) 0) (A.getD (6 * jn + 3) 0) i m) (nc_dlC kz Q (A.getD (6 * jn + 1) 0).toNatClampNeg (A.getD (6 * jn + 3) 0).toNatClampNeg) + 3 + pCc Q kz ≤ pCc Q1 kz1 + 500) ∧ (nc_i (∃ n i m, n < 4 ∧ (A.getD (6 * jn + 1) 0) = nI n ∧ dlOk Q n (A.getD (6 * jn + 2) 0) (A.getD (6 * jn + 3) 0) i m) (nc_dlZ kz Q (A.getD (6 * jn + 1) 0).toNatClampNeg (A.getD (6 * jn + 3) 0).toNatClampNeg) + 18 + pZc Q kz ≤ pZc Q1 kz1 + 4000) ∧ LIk kz1 k2) ∧ Lw S6 F6 t mo o r A X1 kz1 Q1 z Y R k2 ∧ (x9 = 0 → eJ S6 o 0 = v.toInt64) := by
    rcases hq with ⟨rfl, v0, S0, ⟨n, i, m', Q1, X1, kz1, q0, q1, q2, q3, ⟨G', T', X', i1, rfl, rfl, rfl⟩, q6, gW⟩, rfl⟩ | ⟨rfl, rfl, h1⟩ | ⟨rfl, rfl, ⟨n, i, m', q0, q1, q2, q3⟩⟩
    · have il : (List.replicate m' ((none : Option Nat), i)).length = m' := List.length_replicate ..
      rw [il] at gW
      have ev : v0 = nI (visN G' T') := by
        rw [q6]
        show nI (visN (upF Q.G n G' n) (upF Q.T n T' n)) = _
        rw [upF_s, upF_s]
      obtain ⟨F6, g1, g2⟩ := hL.ok (v := v0.toInt64) gW
      obtain ⟨g3, g4, g5⟩ := ow_po (L := List.replicate m' (none, i)) (v := alK (kz (30 + n)) (Q.E n).length) (Q.E n ++ [((Q.G n).n, m')]) hI hK q0 (by rw [il]; exact q3) i1 (by rw [il, if_neg (by have := q2.1; omega)])
      rw [il] at g3 g4
      refine ⟨0, v0, _, _, _, F6, rfl, by decide, Or.inl ⟨rfl, n, i, m', G', T', q0, q1, q2, q3, i1, ev, rfl⟩, ⟨?_, ?_, g5⟩, g1, fun _ => g2⟩
      · rw [nc_it ⟨n, i, m', q0, q1, q2⟩, cp n q0 q1, cy n i m' q0 q2]
        unfold nc_dlC
        rw [nc_t q3]
        exact Nat.le_trans (Nat.le_of_eq (by omega)) (Nat.le_trans (Nat.add_le_add_right g3 3) (Nat.add_le_add_left (show 4 ≤ 500 by decide) (pCc (Q.sPe n G' T' (Q.E n ++ [((Q.G n).n, m')])) (upF kz (30 + n) (alK (kz (30 + n)) (Q.E n).length)))))
      · rw [nc_it ⟨n, i, m', q0, q1, q2⟩, cp n q0 q1, cy n i m' q0 q2]
        unfold nc_dlZ
        rw [nc_t q3]
        exact Nat.le_trans (Nat.le_of_eq (by omega)) (Nat.le_trans (Nat.add_le_add_right g4 18) (Nat.add_le_add_left (show 20 ≤ 4000 by decide) (pZc (Q.sPe n G' T' (Q.E n ++ [((Q.G n).n, m')])) (upF kz (30 + n) (alK (kz (30 + n)) (Q.E n).length)))))
    · obtain ⟨g1, g2⟩ := bad (fun ⟨n, i, m', n1, n2, n3⟩ => by
        rcases h1 with q | ⟨n', q1, q2, q3⟩
        · exact np_no q n1 n2
        · have e := nI_ij n2 q2 (by omega) (by omega)
          subst e
          exact q3 ⟨i, m', n3⟩)
      exact ⟨1, 0, Q, X, kz, F, rfl, by decide, Or.inr (Or.inl ⟨rfl, h1, rfl⟩), ⟨g1, g2, hK⟩, hL, fun w => absurd w (by decide)⟩
    · have zz : (nc_i (∃ n i m, n < 4 ∧ (A.getD (6 * jn + 1) 0) = nI n ∧ dlOk Q n (A.getD (6 * jn + 2) 0) (A.getD (6 * jn + 3) 0) i m) (nc_dlC kz Q (A.getD (6 * jn + 1) 0).toNatClampNeg (A.getD (6 * jn + 3) 0).toNatClampNeg) + 3 + pCc Q kz ≤ pCc Q kz + 500) ∧ (nc_i (∃ n i m, n < 4 ∧ (A.getD (6 * jn + 1) 0) = nI n ∧ dlOk Q n (A.getD (6 * jn + 2) 0) (A.getD (6 * jn + 3) 0) i m) (nc_dlZ kz Q (A.getD (6 * jn + 1) 0).toNatClampNeg (A.getD (6 * jn + 3) 0).toNatClampNeg) + 18 + pZc Q kz ≤ pZc Q kz + 4000) := by
        rw [nc_it ⟨n, i, m', q0, q1, q2⟩, nc_it ⟨n, i, m', q0, q1, q2⟩, cp n q0 q1, cy n i m' q0 q2]
        unfold nc_dlC nc_dlZ
        rw [nc_f q3, nc_f q3]; omega
      exact ⟨2, 0, Q, X, kz, F, rfl, by decide, Or.inr (Or.inr ⟨rfl, ⟨n, i, m', q0, q1, q2, q3⟩, rfl⟩), ⟨zz.1, zz.2, hK⟩, hL, fun w => absurd w (by decide)⟩
  obtain ⟨c, v, Q1, X1, kz1, F6, hx, hc8, hc, ⟨p1, p2, hK1⟩, hL6, hv⟩ := key
  refine ⟨_, hL6.rd (k := 1) (by decide) (by omega) hA, _, hL6.rd (k := 2) (by decide) (by omega) hA, _, hL6.rd (k := 3) (by decide) (by omega) hA, rfl, F6, z, Y, R, k2, ⟨hL6.2.1, hI.abc⟩, by omega, by omega, fun v9 S9 hr => ?_⟩
  have key2 : ∃ (th : Nat) (R1 : Rb), ((th = 0 ∧ ∃ (n i m : Nat) (G' : Gr) (T' : Tr), n < 4 ∧ (A.getD (6 * jn + 1) 0) = nI n ∧ dlOk R.Q n (A.getD (6 * jn + 2) 0) (A.getD (6 * jn + 3) 0) i m ∧ roP (R.Q.G n) n m ∧ Run n (owN (R.Q.G n) n) (List.replicate m (none, i)) (R.Q.G n) (R.Q.T n) G' T' ∧ v9 = nI (visN G' T') ∧ R1 = R.sP n G' T' (R.Q.Kn n) (R.C n ++ [(false, (agE (R.Q.G n) n).length, m)])) ∨ (th = 1 ∧ (np 4 (A.getD (6 * jn + 1) 0) ∨ ∃ n, n < 4 ∧ (A.getD (6 * jn + 1) 0) = nI n ∧ ¬ ∃ i m, dlOk R.Q n (A.getD (6 * jn + 2) 0) (A.getD (6 * jn + 3) 0) i m) ∧ R1 = R) ∨ (th = 2 ∧ (∃ n i m, n < 4 ∧ (A.getD (6 * jn + 1) 0) = nI n ∧ dlOk R.Q n (A.getD (6 * jn + 2) 0) (A.getD (6 * jn + 3) 0) i m ∧ ¬ roP (R.Q.G n) n m) ∧ R1 = R)) ∧ ((3 + nc_i (∃ n i m, n < 4 ∧ (A.getD (6 * jn + 1) 0) = nI n ∧ dlOk R.Q n (A.getD (6 * jn + 2) 0) (A.getD (6 * jn + 3) 0) i m ∧ roP (R.Q.G n) n m) (dC1 R (A.getD (6 * jn + 1) 0).toNatClampNeg (A.getD (6 * jn + 3) 0).toNatClampNeg) + pCr R k2 ≤ pCr R1 k2 + 500) ∧ (18 + nc_i (∃ n i m, n < 4 ∧ (A.getD (6 * jn + 1) 0) = nI n ∧ dlOk R.Q n (A.getD (6 * jn + 2) 0) (A.getD (6 * jn + 3) 0) i m ∧ roP (R.Q.G n) n m) (dC2 R (A.getD (6 * jn + 1) 0).toNatClampNeg (A.getD (6 * jn + 3) 0).toNatClampNeg) + pZr R k2 ≤ pZr R1 k2 + 4000)) ∧ mdW S6 S9 F6 mo R1 k2 th := by
    rcases hr with ⟨n, i, m', G', T', q0, q1, q2, q4, q5, q6, gW⟩ | ⟨h1, q1, gW⟩ | ⟨h1, q1, gW⟩
    · have il : (List.replicate m' ((none : Option Nat), i)).length = m' := List.length_replicate ..
      obtain ⟨g3, g4⟩ := or_po (k2 := k2) (L := List.replicate m' (none, i)) (R.Q.Kn n) (R.C n ++ [(false, (agE (R.Q.G n) n).length, m')]) hI q0 (by rw [il]; exact q4) q5
      rw [il] at g3 g4
      refine ⟨0, _, Or.inl ⟨rfl, n, i, m', G', T', q0, q1, q2, q4, q5, q6, rfl⟩, ⟨?_, ?_⟩, gW⟩
      · rw [nc_it ⟨n, i, m', q0, q1, q2, q4⟩, cp n q0 q1, cy n i m' q0 ((ed _ _ _).1 q2)]
        exact Nat.le_trans (Nat.le_of_eq (by omega)) (Nat.le_trans (Nat.add_le_add_right (Nat.le_of_eq g3) 3) (Nat.add_le_add_left (show 3 ≤ 500 by decide) (pCr (R.sP n G' T' (R.Q.Kn n) (R.C n ++ [(false, (agE (R.Q.G n) n).length, m')])) k2)))
      · rw [nc_it ⟨n, i, m', q0, q1, q2, q4⟩, cp n q0 q1, cy n i m' q0 ((ed _ _ _).1 q2)]
        exact Nat.le_trans (Nat.le_of_eq (by omega)) (Nat.le_trans (Nat.add_le_add_right (Nat.le_of_eq g4) 18) (Nat.add_le_add_left (show 18 ≤ 4000 by decide) (pZr (R.sP n G' T' (R.Q.Kn n) (R.C n ++ [(false, (agE (R.Q.G n) n).length, m')])) k2)))
    · have rb := rbad (fun ⟨n, i, m', n1, n2, n3, n4⟩ => by
        rcases h1 with q | ⟨n', q1, q2, q3⟩
        · exact np_no q n1 n2
        · have e := nI_ij n2 q2 (by omega) (by omega)
          subst e
          exact q3 ⟨i, m', n3⟩)
      exact ⟨1, R, Or.inr (Or.inl ⟨rfl, h1, rfl⟩), rb, gW⟩
    · have rb := rbad (fun ⟨n, i, m', n1, n2, n3, n4⟩ => by
        obtain ⟨n', i', m9, a1, a2, a3, a4⟩ := h1
        obtain ⟨rfl, rfl, rfl⟩ := dlu _ _ _ _ _ _ n1 n2 ((ed _ _ _).1 n3) a1 a2 ((ed _ _ _).1 a3)
        exact a4 n4)
      exact ⟨2, R, Or.inr (Or.inr ⟨rfl, h1, rfl⟩), rb, gW⟩
  obtain ⟨th, R1, hr, ⟨r1, r2⟩, hw⟩ := key2
  obtain ⟨F9, z9, Y9, hL9, hth, -, hj9⟩ := hL6.ref hw
  obtain ⟨a1, a2, hI1⟩ := ag_del hI hB hc hr
  refine lw_cmp hL9 (by rw [hth, a1, ← hx]) (fun w => ?_) (by omega) (by omega) (nx_k hk hj hA hL9 hI1 hK1 hcs hsl p1 p2 r1 r2 (by omega) (by omega))
  rw [hj9, hv w, a2 (nI_z hc8 (hx.symm.trans w))]
