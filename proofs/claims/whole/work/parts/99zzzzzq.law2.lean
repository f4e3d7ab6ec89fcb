/-! ===== The law: calls that change little ===== -/
/-- a case ends: graphs, slots and rows' sizes are as before -/
theorem nx_st {r t m o j k : Nat} {A : List Int32} {S9 : MM} {F9 : Nat → Nat × Nat} {X : Nat → GX} {kz : Nat → Nat} {Q Q1 : Ab} {z9 : Nat → Nat} {Y9 : Nat → Nat → Nat} {R R1 : Rb} {k2 : Nat → Nat} {cs sl cs1 sl1 : Nat} (hk : k + 3 * j = 300 + 1) (hj : 6 * j + 6 ≤ A.length) (hA : A.length ≤ 384) (hL : Lw S9 F9 t m o r A X kz Q1 z9 Y9 R1 k2) (hI : LIv Q1 R1) (hK : LIk kz k2) (hcs : cs ≤ cB j Q kz R k2) (hsl : sl ≤ zB j Q kz R k2) (gQ : Q1.G = Q.G) (gR : R1.Q.G = R.Q.G) (gS : fuS R1 = fuS R) (h1 : cs1 ≤ cs + 1000) (h2 : sl1 ≤ sl + 8000) : ∃ k1, k1 < k ∧ I_nx r A k1 (lwL r t m o j) [] S9 cs1 sl1 := by
  refine nx_of hk hj hA ⟨hL, hI, hK, ?_, ?_⟩
  · unfold cB pCc pCr at *
    rw [gQ, gR]; omega
  · unfold zB pZc pZr at *
    rw [gQ, gR, gS]; omega
set_option maxRecDepth 100000 in
set_option maxHeartbeats 2000000 in
theorem lwc_en {r k : Nat} {A : List Int32} {lo : List (Nat × MV)} {st : List MV} {S1 : MM} {cs sl : Nat} (h : I_lc r A k lo st S1 cs sl) : GoL k r A 260 lo st S1 cs sl := by
  obtain ⟨jn, t, m, o, F, X, kz, Q, z, Y, R, k2, hk, hj, hA, ⟨hL, hI, hK, hcs, hsl⟩, rfl, rfl⟩ := h
  refine ⟨300, ?_⟩
  show (∃ v_1 : Int32, (r = r ∧ vp_in ((nI (6 * jn)) + (1 : Int32)) A.length ∧ v_1 = A.getD ((nI (6 * jn)) + (1 : Int32)).toNatClampNeg 0) ∧ (2 = 2 ∧ (∃ (F_2 : Nat → Nat × Nat) (X_3 : Nat → GX) (kz_4 : Nat → Nat) (Q_5 : Ab), ((WT S1 F_2 t X_3 kz_4 Q_5) ∧ lwO S1 F_2 o) ∧ cs + 1 ≤ 600128 ∧ sl + 6 ≤ 7301098 ∧ (∀ (x_7 : Int32) (S_6 : MM), ((x_7 = 0 ∧ ∃ (v0 : Int32) (S0 : MM), (∃ n, n ≤ Q_5.tp.length ∧ v_1 = nI n ∧ v0 = nI (Q_5.tp.length - n) ∧ wtQ S1 S0 F_2 t X_3 kz_4 (Q_5.sTp (Q_5.tp.take n))) ∧ S_6 = loJ S0 o v0.toInt64) ∨ (x_7 = 1 ∧ S_6 = S1 ∧ (np (Q_5.tp.length + 1) v_1))) → (∃ v_8 : Int32, (r = r ∧ vp_in ((nI (6 * jn)) + (1 : Int32)) A.length ∧ v_8 = A.getD ((nI (6 * jn)) + (1 : Int32)).toNatClampNeg 0) ∧ (0 = 0 ∧ (∃ (F_9 : Nat → Nat × Nat) (z_10 : Nat → Nat) (Y_11 : Nat → Nat → Nat) (R_12 : Rb) (kz_13 : Nat → Nat), (MD S_6 F_9 m z_10 Y_11 R_12 kz_13) ∧ cs + 1 + 1 ≤ 600128 ∧ sl + 6 + 6 ≤ 7301098 ∧ (∀ (x_15 : Int32) (S_14 : MM), (∃ th, (th = 0 ∧ ∃ j, j ≤ R_12.Q.tp.length ∧ v_8 = nI j ∧ x_15 = nI (R_12.Q.tp.length - j) ∧ mdW S_6 S_14 F_9 m (R_12.sQ (R_12.Q.sTp (R_12.Q.tp.take j))) kz_13 th) ∨ (th = 1 ∧ np (R_12.Q.tp.length + 1) v_8 ∧ x_15 = 0 ∧ mdW S_6 S_14 F_9 m R_12 kz_13 th)) → (0 = 0 ∧ (∃ (v9_16 : Int32), (isO S_14 15 m ∧ mI S_14 1551 m = v9_16) ∧ cs + 1 + 1 ≤ 600128 ∧ sl + 6 + 6 ≤ 7301098 ∧ (((v9_16 = x_7 → ((¬ x_7 = 0 → (∃ k1, k1 < k ∧ I_nx r A k1 [(0, .inr (.inr (some r))), (1, .inr (.inr (some t))), (2, .inr (.inr (some m))), (3, .inr (.inr (some o))), (4, .inl (nI (6 * jn)))] [] S_14 (cs + 1 + 1) (sl + 6 + 6))) ∧ (x_7 = 0 → (isO S_14 18 o ∧ inR S_14 o (0 : Int32) ∧ (((lg_cmp (eJ S_14 o (0 : Int32).toNatClampNeg) x_15.toInt64) = 0 → (∃ k1, k1 < k ∧ I_nx r A k1 [(0, .inr (.inr (some r))), (1, .inr (.inr (some t))), (2, .inr (.inr (some m))), (3, .inr (.inr (some o))), (4, .inl (nI (6 * jn)))] [] S_14 (cs + 1 + 1) (sl + 6 + 6))) ∧ (¬ (lg_cmp (eJ S_14 o (0 : Int32).toNatClampNeg) x_15.toInt64) = 0 → (([] : List MV) = [] ∧ retL (some (.inl (0 : Int32))) S_14 (cs + 1 + 1) (sl + 6 + 6)))))))) ∧ (¬ v9_16 = x_7 → (([] : List MV) = [] ∧ retL (some (.inl (0 : Int32))) S_14 (cs + 1 + 1) (sl + 6 + 6)))))))))))))))
  obtain ⟨rc, rs⟩ := room_le hL.1 hI hK (show jn ≤ 64 by omega) hcs hsl
  have hB : BdQ Q := hI.1.bd hL.2.1.bd
  obtain ⟨eG, eT, eK, etp, esl, eft, efo, emp, evw, ehu, eap, ean⟩ := id hI.1
  refine ⟨_, hL.rd (k := 1) (by decide) (by omega) hA, rfl, F, X, kz, Q, ⟨hL.1, hL.lwo⟩, by omega, by omega, fun x9 S6 hq => ?_⟩
  have key : ∃ (c : Nat) (v : Int32) (Q1 : Ab) (F6 : Nat → Nat × Nat), x9 = nI c ∧ c < 8 ∧ ((c = 0 ∧ ∃ n, n ≤ Q.tp.length ∧ (A.getD (6 * jn + 1) 0) = nI n ∧ v = nI (Q.tp.length - n) ∧ Q1 = Q.sTp (Q.tp.take n)) ∨ (c = 1 ∧ (np (Q.tp.length + 1) (A.getD (6 * jn + 1) 0)) ∧ Q1 = Q)) ∧ Lw S6 F6 t m o r A X kz Q1 z Y R k2 ∧ (x9 = 0 → eJ S6 o 0 = v.toInt64) := by
    rcases hq with ⟨rfl, v0, S0, ⟨n, q0, q1, q2, gW⟩, rfl⟩ | ⟨rfl, rfl, hb⟩
    · obtain ⟨F6, g1, g2⟩ := hL.ok (v := v0.toInt64) gW
      exact ⟨0, v0, _, F6, rfl, by decide, Or.inl ⟨rfl, n, q0, q1, q2, rfl⟩, g1, fun _ => g2⟩
    · exact ⟨1, 0, Q, F, rfl, by decide, Or.inr (⟨rfl, hb, rfl⟩), hL, fun w => absurd w (by decide)⟩
  obtain ⟨c, v, Q1, F6, hx, hc8, hc, hL6, hv⟩ := key
  refine ⟨_, hL6.rd (k := 1) (by decide) (by omega) hA, rfl, F6, z, Y, R, k2, hL6.2.1, by omega, by omega, fun v9 S9 hr => ?_⟩
  obtain ⟨th0, hr⟩ := hr
  have key2 : ∃ (th : Nat) (R1 : Rb), ((th = 0 ∧ ∃ j, j ≤ R.Q.tp.length ∧ (A.getD (6 * jn + 1) 0) = nI j ∧ v9 = nI (R.Q.tp.length - j) ∧ R1 = R.sQ (R.Q.sTp (R.Q.tp.take j))) ∨ (th = 1 ∧ np (R.Q.tp.length + 1) (A.getD (6 * jn + 1) 0) ∧ v9 = 0 ∧ R1 = R)) ∧ mdW S6 S9 F6 m R1 k2 th := by
    rcases hr with ⟨rfl, j, q0, q1, q2, gW⟩ | ⟨rfl, q0, q1, gW⟩
    · exact ⟨0, _, Or.inl ⟨rfl, j, q0, q1, q2, rfl⟩, gW⟩
    · exact ⟨1, _, Or.inr (⟨rfl, q0, q1, rfl⟩), gW⟩
  obtain ⟨th, R1, hr, hw⟩ := key2
  obtain ⟨F9, z9, Y9, hL9, hth, -, hj9⟩ := hL6.ref hw
  obtain ⟨a1, a2, a3⟩ := ag_en hB hI.1 hc hr
  have hI1 : LIv Q1 R1 := by
    have eR : R1.C = R.C ∧ R1.M = R.M ∧ R1.Q.G = R.Q.G ∧ R1.Q.sl = R.Q.sl := by
      rcases hr with ⟨-, n, -, -, -, rfl⟩ | ⟨-, -, -, rfl⟩ <;> exact ⟨rfl, rfl, rfl, rfl⟩
    rcases hc with ⟨-, n, -, -, -, rfl⟩ | ⟨-, -, rfl⟩ <;> exact hI.cg a3 rfl rfl rfl rfl rfl rfl rfl eR.1 eR.2.1
  have gQ : Q1.G = Q.G := by rcases hc with ⟨-, n, -, -, -, rfl⟩ | ⟨-, -, rfl⟩ <;> rfl
  have gR : R1.Q.G = R.Q.G := by rcases hr with ⟨-, n, -, -, -, rfl⟩ | ⟨-, -, -, rfl⟩ <;> rfl
  have gS : fuS R1 = fuS R := by rcases hr with ⟨-, n, -, -, -, rfl⟩ | ⟨-, -, -, rfl⟩ <;> rfl
  refine lw_cmp hL9 (by rw [hth, a1, ← hx]) (fun w => ?_) (by omega) (by omega) (nx_st hk hj hA hL9 hI1 hK hcs hsl gQ gR gS (by omega) (by omega))
  rw [hj9, hv w, a2 (nI_z hc8 (hx.symm.trans w))]
set_option maxRecDepth 100000 in
set_option maxHeartbeats 2000000 in
theorem lwc_fi {r k : Nat} {A : List Int32} {lo : List (Nat × MV)} {st : List MV} {S1 : MM} {cs sl : Nat} (h : I_lc r A k lo st S1 cs sl) : GoL k r A 712 lo st S1 cs sl := by
  obtain ⟨jn, t, m, o, F, X, kz, Q, z, Y, R, k2, hk, hj, hA, ⟨hL, hI, hK, hcs, hsl⟩, rfl, rfl⟩ := h
  refine ⟨300, ?_⟩
  show (∃ v_1 : Int32, (r = r ∧ vp_in ((nI (6 * jn)) + (1 : Int32)) A.length ∧ v_1 = A.getD ((nI (6 * jn)) + (1 : Int32)).toNatClampNeg 0) ∧ (∃ v_2 : Int32, (r = r ∧ vp_in ((nI (6 * jn)) + (2 : Int32)) A.length ∧ v_2 = A.getD ((nI (6 * jn)) + (2 : Int32)).toNatClampNeg 0) ∧ (2 = 2 ∧ (∃ (F_3 : Nat → Nat × Nat) (X_4 : Nat → GX) (kz_5 : Nat → Nat) (Q_6 : Ab), ((WT S1 F_3 t X_4 kz_5 Q_6) ∧ lwO S1 F_3 o) ∧ cs + 3 ≤ 600128 ∧ sl + 18 ≤ 7301098 ∧ (∀ (x_8 : Int32) (S_7 : MM), ((x_8 = 0 ∧ ∃ (v0 : Int32) (S0 : MM), (∃ n i sy, n < 4 ∧ v_1 = nI n ∧ i ≤ visN (Q_6.G n) (Q_6.T n) ∧ v_2 = nI i ∧ syms Q_6.tp = some sy ∧ v0 = findT Q_6.tp i (txtG (Q_6.G n) (Q_6.T n)) ∧ wtQ S1 S0 F_3 t X_4 kz_5 (Q_6.sTp [])) ∧ S_7 = loJ S0 o v0.toInt64) ∨ (x_8 = 1 ∧ S_7 = S1 ∧ (np 4 v_1 ∨ ∃ n, n < 4 ∧ v_1 = nI n ∧ np (visN (Q_6.G n) (Q_6.T n) + 1) v_2)) ∨ (x_8 = 2 ∧ (∃ n i, n < 4 ∧ v_1 = nI n ∧ i ≤ visN (Q_6.G n) (Q_6.T n) ∧ v_2 = nI i ∧ syms Q_6.tp = none ∧ wtQ S1 S_7 F_3 t X_4 kz_5 (Q_6.sTp [])))) → (∃ v_9 : Int32, (r = r ∧ vp_in ((nI (6 * jn)) + (1 : Int32)) A.length ∧ v_9 = A.getD ((nI (6 * jn)) + (1 : Int32)).toNatClampNeg 0) ∧ (∃ v_10 : Int32, (r = r ∧ vp_in ((nI (6 * jn)) + (2 : Int32)) A.length ∧ v_10 = A.getD ((nI (6 * jn)) + (2 : Int32)).toNatClampNeg 0) ∧ (0 = 0 ∧ (∃ (F_11 : Nat → Nat × Nat) (z_12 : Nat → Nat) (Y_13 : Nat → Nat → Nat) (R_14 : Rb) (kz_15 : Nat → Nat), (MD S_7 F_11 m z_12 Y_13 R_14 kz_15) ∧ cs + 3 + 3 ≤ 600128 ∧ sl + 18 + 18 ≤ 7301098 ∧ (∀ (x_17 : Int32) (S_16 : MM), (rfiW S_7 S_16 F_11 m R_14 kz_15 v_9 v_10 x_17 ∨ ((np 4 v_9 ∨ ∃ n, n < 4 ∧ v_9 = nI n ∧ np (visN (R_14.Q.G n) (R_14.Q.T n) + 1) v_10) ∧ x_17 = 0 ∧ mdW S_7 S_16 F_11 m R_14 kz_15 1) ∨ ((∃ n i, rfiA R_14 v_9 v_10 n i) ∧ syms R_14.Q.tp = none ∧ x_17 = 0 ∧ mdW S_7 S_16 F_11 m (rtE R_14) kz_15 2)) → (0 = 0 ∧ (∃ (v9_18 : Int32), (isO S_16 15 m ∧ mI S_16 1551 m = v9_18) ∧ cs + 3 + 3 ≤ 600128 ∧ sl + 18 + 18 ≤ 7301098 ∧ (((v9_18 = x_8 → ((¬ x_8 = 0 → (∃ k1, k1 < k ∧ I_nx r A k1 [(0, .inr (.inr (some r))), (1, .inr (.inr (some t))), (2, .inr (.inr (some m))), (3, .inr (.inr (some o))), (4, .inl (nI (6 * jn)))] [] S_16 (cs + 3 + 3) (sl + 18 + 18))) ∧ (x_8 = 0 → (isO S_16 18 o ∧ inR S_16 o (0 : Int32) ∧ (((lg_cmp (eJ S_16 o (0 : Int32).toNatClampNeg) x_17.toInt64) = 0 → (∃ k1, k1 < k ∧ I_nx r A k1 [(0, .inr (.inr (some r))), (1, .inr (.inr (some t))), (2, .inr (.inr (some m))), (3, .inr (.inr (some o))), (4, .inl (nI (6 * jn)))] [] S_16 (cs + 3 + 3) (sl + 18 + 18))) ∧ (¬ (lg_cmp (eJ S_16 o (0 : Int32).toNatClampNeg) x_17.toInt64) = 0 → (([] : List MV) = [] ∧ retL (some (.inl (0 : Int32))) S_16 (cs + 3 + 3) (sl + 18 + 18)))))))) ∧ (¬ v9_18 = x_8 → (([] : List MV) = [] ∧ retL (some (.inl (0 : Int32))) S_16 (cs + 3 + 3) (sl + 18 + 18)))))))))))))))))
  obtain ⟨rc, rs⟩ := room_le hL.1 hI hK (show jn ≤ 64 by omega) hcs hsl
  have hB : BdQ Q := hI.1.bd hL.2.1.bd
  obtain ⟨eG, eT, eK, etp, esl, eft, efo, emp, evw, ehu, eap, ean⟩ := id hI.1
  refine ⟨_, hL.rd (k := 1) (by decide) (by omega) hA, _, hL.rd (k := 2) (by decide) (by omega) hA, rfl, F, X, kz, Q, ⟨hL.1, hL.lwo⟩, by omega, by omega, fun x9 S6 hq => ?_⟩
  have key : ∃ (c : Nat) (v : Int32) (Q1 : Ab) (F6 : Nat → Nat × Nat), x9 = nI c ∧ c < 8 ∧ ((c = 0 ∧ ∃ n i sy, n < 4 ∧ (A.getD (6 * jn + 1) 0) = nI n ∧ i ≤ visN (Q.G n) (Q.T n) ∧ (A.getD (6 * jn + 2) 0) = nI i ∧ syms Q.tp = some sy ∧ v = findT Q.tp i (txtG (Q.G n) (Q.T n)) ∧ Q1 = Q.sTp []) ∨ (c = 1 ∧ (np 4 (A.getD (6 * jn + 1) 0) ∨ ∃ n, n < 4 ∧ (A.getD (6 * jn + 1) 0) = nI n ∧ np (visN (Q.G n) (Q.T n) + 1) (A.getD (6 * jn + 2) 0)) ∧ Q1 = Q) ∨ (c = 2 ∧ ∃ n i, n < 4 ∧ (A.getD (6 * jn + 1) 0) = nI n ∧ i ≤ visN (Q.G n) (Q.T n) ∧ (A.getD (6 * jn + 2) 0) = nI i ∧ syms Q.tp = none ∧ Q1 = Q.sTp [])) ∧ Lw S6 F6 t m o r A X kz Q1 z Y R k2 ∧ (x9 = 0 → eJ S6 o 0 = v.toInt64) := by
    rcases hq with ⟨rfl, v0, S0, ⟨n, i, sy, q0, q1, q2, q3, q4, q5, gW⟩, rfl⟩ | ⟨rfl, rfl, hb⟩ | ⟨rfl, n, i, q0, q1, q2, q3, q4, gW⟩
    · obtain ⟨F6, g1, g2⟩ := hL.ok (v := v0.toInt64) gW
      exact ⟨0, v0, _, F6, rfl, by decide, Or.inl ⟨rfl, n, i, sy, q0, q1, q2, q3, q4, q5, rfl⟩, g1, fun _ => g2⟩
    · exact ⟨1, 0, Q, F, rfl, by decide, Or.inr (Or.inl ⟨rfl, hb, rfl⟩), hL, fun w => absurd w (by decide)⟩
    · obtain ⟨F6, g1, -, -⟩ := hL.cls gW
      exact ⟨2, 0, _, F6, rfl, by decide, Or.inr (Or.inr (⟨rfl, n, i, q0, q1, q2, q3, q4, rfl⟩)), g1, fun w => absurd w (by decide)⟩
  obtain ⟨c, v, Q1, F6, hx, hc8, hc, hL6, hv⟩ := key
  refine ⟨_, hL6.rd (k := 1) (by decide) (by omega) hA, _, hL6.rd (k := 2) (by decide) (by omega) hA, rfl, F6, z, Y, R, k2, hL6.2.1, by omega, by omega, fun v9 S9 hr => ?_⟩
  have key2 : ∃ (th : Nat) (R1 : Rb), ((th = 0 ∧ ∃ n i P, rfiA R (A.getD (6 * jn + 1) 0) (A.getD (6 * jn + 2) 0) n i ∧ syms R.Q.tp = some P ∧ fdV (txtG (R.Q.G n) (R.Q.T n)) P i v9 ∧ R1 = rtE R) ∨ (th = 1 ∧ (np 4 (A.getD (6 * jn + 1) 0) ∨ ∃ n, n < 4 ∧ (A.getD (6 * jn + 1) 0) = nI n ∧ np (visN (R.Q.G n) (R.Q.T n) + 1) (A.getD (6 * jn + 2) 0)) ∧ v9 = 0 ∧ R1 = R) ∨ (th = 2 ∧ (∃ n i, rfiA R (A.getD (6 * jn + 1) 0) (A.getD (6 * jn + 2) 0) n i) ∧ syms R.Q.tp = none ∧ v9 = 0 ∧ R1 = rtE R)) ∧ mdW S6 S9 F6 m R1 k2 th := by
    rcases hr with ⟨n, i, P, q0, q1, q2, gW⟩ | ⟨q0, q1, gW⟩ | ⟨q0, q1, q2, gW⟩
    · exact ⟨0, _, Or.inl ⟨rfl, n, i, P, q0, q1, q2, rfl⟩, gW⟩
    · exact ⟨1, _, Or.inr (Or.inl ⟨rfl, q0, q1, rfl⟩), gW⟩
    · exact ⟨2, _, Or.inr (Or.inr (⟨rfl, q0, q1, q2, rfl⟩)), gW⟩
  obtain ⟨th, R1, hr, hw⟩ := key2
  obtain ⟨F9, z9, Y9, hL9, hth, -, hj9⟩ := hL6.ref hw
  obtain ⟨a1, a2, a3⟩ := ag_fi hB hI.1 (hc.imp id (fun q => q.imp id (fun ⟨e, n, i, q0, q1, q2, q3, q4, q5⟩ => ⟨e, ⟨n, i, q0, q1, q2, q3⟩, q4, q5⟩))) hr
  have hI1 : LIv Q1 R1 := by
    have eR : R1.C = R.C ∧ R1.M = R.M ∧ R1.Q.G = R.Q.G ∧ R1.Q.sl = R.Q.sl := by
      rcases hr with ⟨-, n, i, P, -, -, -, rfl⟩ | ⟨-, -, -, rfl⟩ | ⟨-, -, -, -, rfl⟩ <;> exact ⟨rfl, rfl, rfl, rfl⟩
    rcases hc with ⟨-, n, i, sy, -, -, -, -, -, -, rfl⟩ | ⟨-, -, rfl⟩ | ⟨-, n, i, -, -, -, -, -, rfl⟩ <;> exact hI.cg a3 rfl rfl rfl rfl rfl rfl rfl eR.1 eR.2.1
  have gQ : Q1.G = Q.G := by rcases hc with ⟨-, n, i, sy, -, -, -, -, -, -, rfl⟩ | ⟨-, -, rfl⟩ | ⟨-, n, i, -, -, -, -, -, rfl⟩ <;> rfl
  have gR : R1.Q.G = R.Q.G := by rcases hr with ⟨-, n, i, P, -, -, -, rfl⟩ | ⟨-, -, -, rfl⟩ | ⟨-, -, -, -, rfl⟩ <;> rfl
  have gS : fuS R1 = fuS R := by rcases hr with ⟨-, n, i, P, -, -, -, rfl⟩ | ⟨-, -, -, rfl⟩ | ⟨-, -, -, -, rfl⟩ <;> rfl
  refine lw_cmp hL9 (by rw [hth, a1, ← hx]) (fun w => ?_) (by omega) (by omega) (nx_st hk hj hA hL9 hI1 hK hcs hsl gQ gR gS (by omega) (by omega))
  rw [hj9, hv w, a2 (nI_z hc8 (hx.symm.trans w))]
set_option maxRecDepth 100000 in
set_option maxHeartbeats 2000000 in
theorem lwc_mk {r k : Nat} {A : List Int32} {lo : List (Nat × MV)} {st : List MV} {S1 : MM} {cs sl : Nat} (h : I_lc r A k lo st S1 cs sl) : GoL k r A 1142 lo st S1 cs sl := by
  obtain ⟨jn, t, m, o, F, X, kz, Q, z, Y, R, k2, hk, hj, hA, ⟨hL, hI, hK, hcs, hsl⟩, rfl, rfl⟩ := h
  refine ⟨300, ?_⟩
  show (∃ v_1 : Int32, (r = r ∧ vp_in ((nI (6 * jn)) + (1 : Int32)) A.length ∧ v_1 = A.getD ((nI (6 * jn)) + (1 : Int32)).toNatClampNeg 0) ∧ (∃ v_2 : Int32, (r = r ∧ vp_in ((nI (6 * jn)) + (2 : Int32)) A.length ∧ v_2 = A.getD ((nI (6 * jn)) + (2 : Int32)).toNatClampNeg 0) ∧ (2 = 2 ∧ (∃ (F_3 : Nat → Nat × Nat) (X_4 : Nat → GX) (kz_5 : Nat → Nat) (Q_6 : Ab), ((WT S1 F_3 t X_4 kz_5 Q_6) ∧ lwO S1 F_3 o) ∧ cs + 2 ≤ 600128 ∧ sl + 12 ≤ 7301098 ∧ (∀ (x_8 : Int32) (S_7 : MM), ((x_8 = 0 ∧ ∃ (v0 : Int32) (S0 : MM), (∃ i n, i < 8 ∧ v_1 = nI i ∧ n < 4 ∧ v_2 = nI n ∧ v0 = nI (Q_6.G n).n ∧ wtQ S1 S0 F_3 t X_4 kz_5 (Q_6.sMk (upF Q_6.mp i (some n)) (upF Q_6.ms i (Q_6.G n).n))) ∧ S_7 = loJ S0 o v0.toInt64) ∨ (x_8 = 1 ∧ S_7 = S1 ∧ (np 8 v_1 ∨ np 4 v_2))) → (∃ v_9 : Int32, (r = r ∧ vp_in ((nI (6 * jn)) + (1 : Int32)) A.length ∧ v_9 = A.getD ((nI (6 * jn)) + (1 : Int32)).toNatClampNeg 0) ∧ (∃ v_10 : Int32, (r = r ∧ vp_in ((nI (6 * jn)) + (2 : Int32)) A.length ∧ v_10 = A.getD ((nI (6 * jn)) + (2 : Int32)).toNatClampNeg 0) ∧ (0 = 0 ∧ (∃ (F_11 : Nat → Nat × Nat) (z_12 : Nat → Nat) (Y_13 : Nat → Nat → Nat) (R_14 : Rb) (kz_15 : Nat → Nat), (MD S_7 F_11 m z_12 Y_13 R_14 kz_15) ∧ cs + 2 + 2 ≤ 600128 ∧ sl + 12 + 12 ≤ 7301098 ∧ (∀ (x_17 : Int32) (S_16 : MM), ((∃ i n, i < 8 ∧ v_9 = nI i ∧ n < 4 ∧ v_10 = nI n ∧ x_17 = nI (R_14.Q.G n).n ∧ mdW S_7 S_16 F_11 m (mkR R_14 i n) kz_15 0) ∨ ((np 8 v_9 ∨ np 4 v_10) ∧ x_17 = 0 ∧ mdW S_7 S_16 F_11 m R_14 kz_15 1)) → (0 = 0 ∧ (∃ (v9_18 : Int32), (isO S_16 15 m ∧ mI S_16 1551 m = v9_18) ∧ cs + 2 + 2 ≤ 600128 ∧ sl + 12 + 12 ≤ 7301098 ∧ (((v9_18 = x_8 → ((¬ x_8 = 0 → (∃ k1, k1 < k ∧ I_nx r A k1 [(0, .inr (.inr (some r))), (1, .inr (.inr (some t))), (2, .inr (.inr (some m))), (3, .inr (.inr (some o))), (4, .inl (nI (6 * jn)))] [] S_16 (cs + 2 + 2) (sl + 12 + 12))) ∧ (x_8 = 0 → (isO S_16 18 o ∧ inR S_16 o (0 : Int32) ∧ (((lg_cmp (eJ S_16 o (0 : Int32).toNatClampNeg) x_17.toInt64) = 0 → (∃ k1, k1 < k ∧ I_nx r A k1 [(0, .inr (.inr (some r))), (1, .inr (.inr (some t))), (2, .inr (.inr (some m))), (3, .inr (.inr (some o))), (4, .inl (nI (6 * jn)))] [] S_16 (cs + 2 + 2) (sl + 12 + 12))) ∧ (¬ (lg_cmp (eJ S_16 o (0 : Int32).toNatClampNeg) x_17.toInt64) = 0 → (([] : List MV) = [] ∧ retL (some (.inl (0 : Int32))) S_16 (cs + 2 + 2) (sl + 12 + 12)))))))) ∧ (¬ v9_18 = x_8 → (([] : List MV) = [] ∧ retL (some (.inl (0 : Int32))) S_16 (cs + 2 + 2) (sl + 12 + 12)))))))))))))))))
  obtain ⟨rc, rs⟩ := room_le hL.1 hI hK (show jn ≤ 64 by omega) hcs hsl
  have hB : BdQ Q := hI.1.bd hL.2.1.bd
  obtain ⟨eG, eT, eK, etp, esl, eft, efo, emp, evw, ehu, eap, ean⟩ := id hI.1
  refine ⟨_, hL.rd (k := 1) (by decide) (by omega) hA, _, hL.rd (k := 2) (by decide) (by omega) hA, rfl, F, X, kz, Q, ⟨hL.1, hL.lwo⟩, by omega, by omega, fun x9 S6 hq => ?_⟩
  have key : ∃ (c : Nat) (v : Int32) (Q1 : Ab) (F6 : Nat → Nat × Nat), x9 = nI c ∧ c < 8 ∧ ((c = 0 ∧ ∃ i n, i < 8 ∧ (A.getD (6 * jn + 1) 0) = nI i ∧ n < 4 ∧ (A.getD (6 * jn + 2) 0) = nI n ∧ v = nI (Q.G n).n ∧ Q1 = Q.sMk (upF Q.mp i (some n)) (upF Q.ms i (Q.G n).n)) ∨ (c = 1 ∧ (np 8 (A.getD (6 * jn + 1) 0) ∨ np 4 (A.getD (6 * jn + 2) 0)) ∧ Q1 = Q)) ∧ Lw S6 F6 t m o r A X kz Q1 z Y R k2 ∧ (x9 = 0 → eJ S6 o 0 = v.toInt64) := by
    rcases hq with ⟨rfl, v0, S0, ⟨i, n, q0, q1, q2, q3, q4, gW⟩, rfl⟩ | ⟨rfl, rfl, hb⟩
    · obtain ⟨F6, g1, g2⟩ := hL.ok (v := v0.toInt64) gW
      exact ⟨0, v0, _, F6, rfl, by decide, Or.inl ⟨rfl, i, n, q0, q1, q2, q3, q4, rfl⟩, g1, fun _ => g2⟩
    · exact ⟨1, 0, Q, F, rfl, by decide, Or.inr (⟨rfl, hb, rfl⟩), hL, fun w => absurd w (by decide)⟩
  obtain ⟨c, v, Q1, F6, hx, hc8, hc, hL6, hv⟩ := key
  refine ⟨_, hL6.rd (k := 1) (by decide) (by omega) hA, _, hL6.rd (k := 2) (by decide) (by omega) hA, rfl, F6, z, Y, R, k2, hL6.2.1, by omega, by omega, fun v9 S9 hr => ?_⟩
  have key2 : ∃ (th : Nat) (R1 : Rb), ((th = 0 ∧ ∃ i n, i < 8 ∧ (A.getD (6 * jn + 1) 0) = nI i ∧ n < 4 ∧ (A.getD (6 * jn + 2) 0) = nI n ∧ v9 = nI (R.Q.G n).n ∧ R1 = mkR R i n) ∨ (th = 1 ∧ (np 8 (A.getD (6 * jn + 1) 0) ∨ np 4 (A.getD (6 * jn + 2) 0)) ∧ v9 = 0 ∧ R1 = R)) ∧ mdW S6 S9 F6 m R1 k2 th := by
    rcases hr with ⟨i, n, q0, q1, q2, q3, q4, gW⟩ | ⟨q0, q1, gW⟩
    · exact ⟨0, _, Or.inl ⟨rfl, i, n, q0, q1, q2, q3, q4, rfl⟩, gW⟩
    · exact ⟨1, _, Or.inr (⟨rfl, q0, q1, rfl⟩), gW⟩
  obtain ⟨th, R1, hr, hw⟩ := key2
  obtain ⟨F9, z9, Y9, hL9, hth, -, hj9⟩ := hL6.ref hw
  obtain ⟨a1, a2, a3⟩ := ag_mk hI.1 hc hr
  have hI1 : LIv Q1 R1 := by
    rcases hc with ⟨c0, i, n, i1, i2, n1, n2, -, rfl⟩ | ⟨c0, -, rfl⟩ <;> rcases hr with ⟨h0, i', n', i1', i2', n1', n2', -, rfl⟩ | ⟨h0, -, -, rfl⟩
    · have e1 := nI_ij i2 i2' (by omega) (by omega)
      have e2 := nI_ij n2 n2' (by omega) (by omega)
      subst e1 e2
      exact hI.mk n1 i
    · rw [h0, c0] at a1; cases a1
    · rw [h0, c0] at a1; cases a1
    · exact hI
  have gQ : Q1.G = Q.G := by rcases hc with ⟨-, i, n, -, -, -, -, -, rfl⟩ | ⟨-, -, rfl⟩ <;> rfl
  have gR : R1.Q.G = R.Q.G := by rcases hr with ⟨-, i, n, -, -, -, -, -, rfl⟩ | ⟨-, -, -, rfl⟩ <;> rfl
  have gS : fuS R1 = fuS R := by rcases hr with ⟨-, i, n, -, -, -, -, -, rfl⟩ | ⟨-, -, -, rfl⟩ <;> rfl
  refine lw_cmp hL9 (by rw [hth, a1, ← hx]) (fun w => ?_) (by omega) (by omega) (nx_st hk hj hA hL9 hI1 hK hcs hsl gQ gR gS (by omega) (by omega))
  rw [hj9, hv w, a2 (nI_z hc8 (hx.symm.trans w))]
theorem fuS_set (R : Rb) (i j b : Nat) : fuS (alD R i j b) = fuS R := by
  refine smN_cg (fun u _ => ?_)
  show (if upF R.Q.sl i ((R.Q.sl i).set j b) u = [] then 0 else 1) = if R.Q.sl u = [] then 0 else 1
  by_cases e : u = i
  · subst e
    rw [upF_s]
    by_cases c : R.Q.sl u = []
    · rw [c]; rfl
    · rw [if_neg c, if_neg (fun w => c (List.eq_nil_of_length_eq_zero (by have := congrArg List.length w; rw [List.length_set] at this; exact this)))]
  · rw [upF_o e]
set_option maxRecDepth 100000 in
set_option maxHeartbeats 2000000 in
theorem lwc_al {r k : Nat} {A : List Int32} {lo : List (Nat × MV)} {st : List MV} {S1 : MM} {cs sl : Nat} (h : I_lc r A k lo st S1 cs sl) : GoL k r A 1914 lo st S1 cs sl := by
  obtain ⟨jn, t, m, o, F, X, kz, Q, z, Y, R, k2, hk, hj, hA, ⟨hL, hI, hK, hcs, hsl⟩, rfl, rfl⟩ := h
  refine ⟨300, ?_⟩
  show (∃ v_1 : Int32, (r = r ∧ vp_in ((nI (6 * jn)) + (1 : Int32)) A.length ∧ v_1 = A.getD ((nI (6 * jn)) + (1 : Int32)).toNatClampNeg 0) ∧ (∃ v_2 : Int32, (r = r ∧ vp_in ((nI (6 * jn)) + (2 : Int32)) A.length ∧ v_2 = A.getD ((nI (6 * jn)) + (2 : Int32)).toNatClampNeg 0) ∧ (∃ v_3 : Int32, (r = r ∧ vp_in ((nI (6 * jn)) + (3 : Int32)) A.length ∧ v_3 = A.getD ((nI (6 * jn)) + (3 : Int32)).toNatClampNeg 0) ∧ (2 = 2 ∧ (∃ (F_4 : Nat → Nat × Nat) (X_5 : Nat → GX) (kz_6 : Nat → Nat) (Q_7 : Ab), ((WT S1 F_4 t X_5 kz_6 Q_7) ∧ lwO S1 F_4 o) ∧ cs + 4 ≤ 600128 ∧ sl + 24 ≤ 7301098 ∧ (∀ (x_9 : Int32) (S_8 : MM), ((x_9 = 0 ∧ ∃ (v0 : Int32) (S0 : MM), (∃ i j b, i < 8 ∧ v_1 = nI i ∧ j < (Q_7.sl i).length ∧ v_2 = nI j ∧ b < 256 ∧ v_3 = nI b ∧ v0 = nI ((Q_7.sl i).getD j 0) ∧ wtQ S1 S0 F_4 t X_5 kz_6 ((Q_7.sSl (upF Q_7.sl i ((Q_7.sl i).set j b))).sFo (if Q_7.fo = 1 ∨ (Q_7.sl i).getD j 0 ≠ b then 1 else 0))) ∧ S_8 = loJ S0 o v0.toInt64) ∨ (x_9 = 1 ∧ S_8 = S1 ∧ (np 256 v_3 ∨ np 8 v_1 ∨ ∃ i, i < 8 ∧ v_1 = nI i ∧ Q_7.sl i ≠ [] ∧ np (Q_7.sl i).length v_2)) ∨ (x_9 = 2 ∧ S_8 = S1 ∧ (¬ np 256 v_3 ∧ ∃ i, i < 8 ∧ v_1 = nI i ∧ Q_7.sl i = []))) → (∃ v_10 : Int32, (r = r ∧ vp_in ((nI (6 * jn)) + (1 : Int32)) A.length ∧ v_10 = A.getD ((nI (6 * jn)) + (1 : Int32)).toNatClampNeg 0) ∧ (∃ v_11 : Int32, (r = r ∧ vp_in ((nI (6 * jn)) + (2 : Int32)) A.length ∧ v_11 = A.getD ((nI (6 * jn)) + (2 : Int32)).toNatClampNeg 0) ∧ (∃ v_12 : Int32, (r = r ∧ vp_in ((nI (6 * jn)) + (3 : Int32)) A.length ∧ v_12 = A.getD ((nI (6 * jn)) + (3 : Int32)).toNatClampNeg 0) ∧ (0 = 0 ∧ (∃ (F_13 : Nat → Nat × Nat) (z_14 : Nat → Nat) (Y_15 : Nat → Nat → Nat) (R_16 : Rb) (kz_17 : Nat → Nat), (MD S_8 F_13 m z_14 Y_15 R_16 kz_17) ∧ cs + 4 + 3 ≤ 600128 ∧ sl + 24 + 18 ≤ 7301098 ∧ (∀ (x_19 : Int32) (S_18 : MM), ((∃ i j b, i < 8 ∧ v_10 = nI i ∧ j < (R_16.Q.sl i).length ∧ v_11 = nI j ∧ b < 256 ∧ v_12 = nI b ∧ x_19 = nI ((R_16.Q.sl i).getD j 0) ∧ mdW S_8 S_18 F_13 m (alD R_16 i j b) kz_17 0) ∨ ((np 8 v_10 ∨ np 256 v_12 ∨ (∃ i, i < 8 ∧ v_10 = nI i ∧ R_16.Q.sl i ≠ [] ∧ np (R_16.Q.sl i).length v_11)) ∧ x_19 = 0 ∧ mdW S_8 S_18 F_13 m R_16 kz_17 1) ∨ ((¬ np 256 v_12 ∧ ∃ i, i < 8 ∧ v_10 = nI i ∧ R_16.Q.sl i = []) ∧ x_19 = 0 ∧ mdW S_8 S_18 F_13 m R_16 kz_17 2)) → (0 = 0 ∧ (∃ (v9_20 : Int32), (isO S_18 15 m ∧ mI S_18 1551 m = v9_20) ∧ cs + 4 + 3 ≤ 600128 ∧ sl + 24 + 18 ≤ 7301098 ∧ (((v9_20 = x_9 → ((¬ x_9 = 0 → (∃ k1, k1 < k ∧ I_nx r A k1 [(0, .inr (.inr (some r))), (1, .inr (.inr (some t))), (2, .inr (.inr (some m))), (3, .inr (.inr (some o))), (4, .inl (nI (6 * jn)))] [] S_18 (cs + 4 + 3) (sl + 24 + 18))) ∧ (x_9 = 0 → (isO S_18 18 o ∧ inR S_18 o (0 : Int32) ∧ (((lg_cmp (eJ S_18 o (0 : Int32).toNatClampNeg) x_19.toInt64) = 0 → (∃ k1, k1 < k ∧ I_nx r A k1 [(0, .inr (.inr (some r))), (1, .inr (.inr (some t))), (2, .inr (.inr (some m))), (3, .inr (.inr (some o))), (4, .inl (nI (6 * jn)))] [] S_18 (cs + 4 + 3) (sl + 24 + 18))) ∧ (¬ (lg_cmp (eJ S_18 o (0 : Int32).toNatClampNeg) x_19.toInt64) = 0 → (([] : List MV) = [] ∧ retL (some (.inl (0 : Int32))) S_18 (cs + 4 + 3) (sl + 24 + 18)))))))) ∧ (¬ v9_20 = x_9 → (([] : List MV) = [] ∧ retL (some (.inl (0 : Int32))) S_18 (cs + 4 + 3) (sl + 24 + 18)))))))))))))))))))
  obtain ⟨rc, rs⟩ := room_le hL.1 hI hK (show jn ≤ 64 by omega) hcs hsl
  have hB : BdQ Q := hI.1.bd hL.2.1.bd
  obtain ⟨eG, eT, eK, etp, esl, eft, efo, emp, evw, ehu, eap, ean⟩ := id hI.1
  refine ⟨_, hL.rd (k := 1) (by decide) (by omega) hA, _, hL.rd (k := 2) (by decide) (by omega) hA, _, hL.rd (k := 3) (by decide) (by omega) hA, rfl, F, X, kz, Q, ⟨hL.1, hL.lwo⟩, by omega, by omega, fun x9 S6 hq => ?_⟩
  have key : ∃ (c : Nat) (v : Int32) (Q1 : Ab) (F6 : Nat → Nat × Nat), x9 = nI c ∧ c < 8 ∧ ((c = 0 ∧ ∃ i j b, i < 8 ∧ (A.getD (6 * jn + 1) 0) = nI i ∧ j < (Q.sl i).length ∧ (A.getD (6 * jn + 2) 0) = nI j ∧ b < 256 ∧ (A.getD (6 * jn + 3) 0) = nI b ∧ v = nI ((Q.sl i).getD j 0) ∧ Q1 = (Q.sSl (upF Q.sl i ((Q.sl i).set j b))).sFo (if Q.fo = 1 ∨ (Q.sl i).getD j 0 ≠ b then 1 else 0)) ∨ (c = 1 ∧ (np 256 (A.getD (6 * jn + 3) 0) ∨ np 8 (A.getD (6 * jn + 1) 0) ∨ ∃ i, i < 8 ∧ (A.getD (6 * jn + 1) 0) = nI i ∧ Q.sl i ≠ [] ∧ np (Q.sl i).length (A.getD (6 * jn + 2) 0)) ∧ Q1 = Q) ∨ (c = 2 ∧ (¬ np 256 (A.getD (6 * jn + 3) 0) ∧ ∃ i, i < 8 ∧ (A.getD (6 * jn + 1) 0) = nI i ∧ Q.sl i = []) ∧ Q1 = Q)) ∧ Lw S6 F6 t m o r A X kz Q1 z Y R k2 ∧ (x9 = 0 → eJ S6 o 0 = v.toInt64) := by
    rcases hq with ⟨rfl, v0, S0, ⟨i, j, b, q0, q1, q2, q3, q4, q5, q6, gW⟩, rfl⟩ | ⟨rfl, rfl, hb⟩ | ⟨rfl, rfl, hb⟩
    · obtain ⟨F6, g1, g2⟩ := hL.ok (v := v0.toInt64) gW
      exact ⟨0, v0, _, F6, rfl, by decide, Or.inl ⟨rfl, i, j, b, q0, q1, q2, q3, q4, q5, q6, rfl⟩, g1, fun _ => g2⟩
    · exact ⟨1, 0, Q, F, rfl, by decide, Or.inr (Or.inl ⟨rfl, hb, rfl⟩), hL, fun w => absurd w (by decide)⟩
    · exact ⟨2, 0, Q, F, rfl, by decide, Or.inr (Or.inr (⟨rfl, hb, rfl⟩)), hL, fun w => absurd w (by decide)⟩
  obtain ⟨c, v, Q1, F6, hx, hc8, hc, hL6, hv⟩ := key
  refine ⟨_, hL6.rd (k := 1) (by decide) (by omega) hA, _, hL6.rd (k := 2) (by decide) (by omega) hA, _, hL6.rd (k := 3) (by decide) (by omega) hA, rfl, F6, z, Y, R, k2, hL6.2.1, by omega, by omega, fun v9 S9 hr => ?_⟩
  have key2 : ∃ (th : Nat) (R1 : Rb), ((th = 0 ∧ ∃ i j b, i < 8 ∧ (A.getD (6 * jn + 1) 0) = nI i ∧ j < (R.Q.sl i).length ∧ (A.getD (6 * jn + 2) 0) = nI j ∧ b < 256 ∧ (A.getD (6 * jn + 3) 0) = nI b ∧ v9 = nI ((R.Q.sl i).getD j 0) ∧ R1 = alD R i j b) ∨ (th = 1 ∧ (np 8 (A.getD (6 * jn + 1) 0) ∨ np 256 (A.getD (6 * jn + 3) 0) ∨ (∃ i, i < 8 ∧ (A.getD (6 * jn + 1) 0) = nI i ∧ R.Q.sl i ≠ [] ∧ np (R.Q.sl i).length (A.getD (6 * jn + 2) 0))) ∧ v9 = 0 ∧ R1 = R) ∨ (th = 2 ∧ (¬ np 256 (A.getD (6 * jn + 3) 0) ∧ ∃ i, i < 8 ∧ (A.getD (6 * jn + 1) 0) = nI i ∧ R.Q.sl i = []) ∧ v9 = 0 ∧ R1 = R)) ∧ mdW S6 S9 F6 m R1 k2 th := by
    rcases hr with ⟨i, j, b, q0, q1, q2, q3, q4, q5, q6, gW⟩ | ⟨q0, q1, gW⟩ | ⟨q0, q1, gW⟩
    · exact ⟨0, _, Or.inl ⟨rfl, i, j, b, q0, q1, q2, q3, q4, q5, q6, rfl⟩, gW⟩
    · exact ⟨1, _, Or.inr (Or.inl ⟨rfl, q0, q1, rfl⟩), gW⟩
    · exact ⟨2, _, Or.inr (Or.inr (⟨rfl, q0, q1, rfl⟩)), gW⟩
  obtain ⟨th, R1, hr, hw⟩ := key2
  obtain ⟨F9, z9, Y9, hL9, hth, -, hj9⟩ := hL6.ref hw
  obtain ⟨a1, a2, a3⟩ := ag_al hB hI.1 (hc.imp id (fun q => q.imp (fun ⟨e, q1, q2⟩ => ⟨e, q1.elim (fun w => Or.inr (Or.inl w)) (fun w => w.elim Or.inl (fun w => Or.inr (Or.inr w))), q2⟩) id)) hr
  have hI1 : LIv Q1 R1 := by
    rcases hc with ⟨c0, i, j, b, i1, i2, j1, j2, b1, b2, -, rfl⟩ | ⟨c0, -, rfl⟩ | ⟨c0, -, rfl⟩ <;> rcases hr with ⟨h0, i', j', b', i1', i2', j1', j2', b1', b2', -, rfl⟩ | ⟨h0, -, -, rfl⟩ | ⟨h0, -, -, rfl⟩
    any_goals (rw [h0, c0] at a1; cases a1; done)
    · have hl := hB.2.2.1 i i1
      have e1 := nI_ij i2 i2' (by omega) (by omega)
      subst e1
      rw [esl] at j1'
      have e2 := nI_ij j2 j2' (by omega) (by omega)
      have e3 := nI_ij b2 b2' (by omega) (by omega)
      subst e2 e3
      exact hI.alt i j b j1 hL.1.kb.2.2.2.2.2.2.1
    · exact hI
    · exact hI
  have gQ : Q1.G = Q.G := by rcases hc with ⟨-, i, j, b, -, -, -, -, -, -, -, rfl⟩ | ⟨-, -, rfl⟩ | ⟨-, -, rfl⟩ <;> rfl
  have gR : R1.Q.G = R.Q.G := by rcases hr with ⟨-, i, j, b, -, -, -, -, -, -, -, rfl⟩ | ⟨-, -, -, rfl⟩ | ⟨-, -, -, rfl⟩ <;> rfl
  have gS : fuS R1 = fuS R := by
    rcases hr with ⟨-, i, j, b, -, -, -, -, -, -, -, rfl⟩ | ⟨-, -, -, rfl⟩ | ⟨-, -, -, rfl⟩
    · exact fuS_set R i j b
    · rfl
    · rfl
  refine lw_cmp hL9 (by rw [hth, a1, ← hx]) (fun w => ?_) (by omega) (by omega) (nx_st hk hj hA hL9 hI1 hK hcs hsl gQ gR gS (by omega) (by omega))
  rw [hj9, hv w, a2 (nI_z hc8 (hx.symm.trans w))]
