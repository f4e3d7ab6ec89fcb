/-! ===== The law: its loop, fault, crossed, anchor ===== -/
set_option maxRecDepth 100000 in
set_option maxHeartbeats 2000000 in
theorem lwc_ft {r k : Nat} {A : List Int32} {lo : List (Nat × MV)} {st : List MV} {S1 : MM} {cs sl : Nat} (h : I_lc r A k lo st S1 cs sl) : GoL k r A 2062 lo st S1 cs sl := by
  obtain ⟨jn, t, m, o, F, X, kz, Q, z, Y, R, k2, hk, hj, hA, ⟨hL, hI, hK, hcs, hsl⟩, rfl, rfl⟩ := h
  refine ⟨300, ?_⟩
  show (0 = 0 ∧ (∃ (F_1 : Nat → Nat × Nat) (X_2 : Nat → GX) (kz_3 : Nat → Nat) (Q_4 : Ab), (WT S1 F_1 t X_2 kz_3 Q_4) ∧ cs ≤ 600128 ∧ sl ≤ 7301098 ∧ ((0 = 0 ∧ (∃ (F_6 : Nat → Nat × Nat) (z_7 : Nat → Nat) (Y_8 : Nat → Nat → Nat) (R_9 : Rb) (kz_10 : Nat → Nat), (MD S1 F_6 m z_7 Y_8 R_9 kz_10) ∧ cs ≤ 600128 ∧ sl ≤ 7301098 ∧ (∀ (S_11 : MM), (thQ S1 S_11 F_6 m z_7 Y_8 R_9 kz_10 0) → (((nI Q_4.ft) = (nI R_9.Q.ft) → (∃ k1, k1 < k ∧ I_nx r A k1 [(0, .inr (.inr (some r))), (1, .inr (.inr (some t))), (2, .inr (.inr (some m))), (3, .inr (.inr (some o))), (4, .inl (nI (6 * jn)))] [] S_11 cs sl)) ∧ (¬ (nI Q_4.ft) = (nI R_9.Q.ft) → (([] : List MV) = [] ∧ retL (some (.inl (0 : Int32))) S_11 cs sl)))))))))
  obtain ⟨rc, rs⟩ := room_le hL.1 hI hK (show jn ≤ 64 by omega) hcs hsl
  have hB : BdQ Q := hI.1.bd hL.2.1.bd
  obtain ⟨eG, eT, eK, etp, esl, eft, efo, emp, evw, ehu, eap, ean⟩ := id hI.1
  refine ⟨rfl, F, X, kz, Q, hL.1, by omega, by omega, rfl, F, z, Y, R, k2, hL.2.1, by omega, by omega, fun S9 hw => ⟨fun _ => ?_, fun w => absurd (by rw [eft]) w⟩⟩
  obtain ⟨F9, z9, Y9, hL9, -, -, -⟩ := hL.ref (hw.w hL.2.1)
  exact nx_st hk hj hA hL9 hI hK hcs hsl rfl rfl rfl (by omega) (by omega)
theorem cxT_rel {Q : Ab} {R : Rb} (h : Rel Q R) (n : Nat) : cxT R.Q n = cxT Q n := by
  have e : ∀ p q, cxR R.Q p q = cxR Q p q := fun p q => by
    induction q with
    | zero => rfl
    | succ q ih => unfold cxR; rw [ih, h.1, h.2.1]
  induction n with
  | zero => rfl
  | succ n ih => unfold cxT; rw [ih, e]
set_option maxRecDepth 100000 in
set_option maxHeartbeats 2000000 in
theorem lwc_cx {r k : Nat} {A : List Int32} {lo : List (Nat × MV)} {st : List MV} {S1 : MM} {cs sl : Nat} (h : I_lc r A k lo st S1 cs sl) : GoL k r A 2075 lo st S1 cs sl := by
  obtain ⟨jn, t, m, o, F, X, kz, Q, z, Y, R, k2, hk, hj, hA, ⟨hL, hI, hK, hcs, hsl⟩, rfl, rfl⟩ := h
  refine ⟨300, ?_⟩
  show (0 = 0 ∧ (∃ (F_1 : Nat → Nat × Nat) (X_2 : Nat → GX) (kz_3 : Nat → Nat) (Q_4 : Ab), (WT S1 F_1 t X_2 kz_3 Q_4) ∧ cs ≤ 600128 ∧ sl ≤ 7301098 ∧ (∀ (x_6 : Int32) (S_5 : MM), (((Q_4.fo = 1 ∧ x_6 = -1) ∨ (Q_4.fo = 0 ∧ x_6 = nI (cxT Q_4 4))) ∧ wtQ S1 S_5 F_1 t X_2 kz_3 Q_4) → (0 = 0 ∧ (∃ (F_7 : Nat → Nat × Nat) (z_8 : Nat → Nat) (Y_9 : Nat → Nat → Nat) (R_10 : Rb) (kz_11 : Nat → Nat), (cx0P S_5 F_7 m z_8 Y_9 R_10 kz_11) ∧ cs ≤ 600128 ∧ sl ≤ 7301098 ∧ (∀ (x_13 : Int32) (S_12 : MM), (cxv R_10 x_13 ∧ mdW S_5 S_12 F_7 m R_10 kz_11 0) → ((x_6 = x_13 → (∃ k1, k1 < k ∧ I_nx r A k1 [(0, .inr (.inr (some r))), (1, .inr (.inr (some t))), (2, .inr (.inr (some m))), (3, .inr (.inr (some o))), (4, .inl (nI (6 * jn)))] [] S_12 cs sl)) ∧ (¬ x_6 = x_13 → (([] : List MV) = [] ∧ retL (some (.inl (0 : Int32))) S_12 cs sl)))))))))
  obtain ⟨rc, rs⟩ := room_le hL.1 hI hK (show jn ≤ 64 by omega) hcs hsl
  have hB : BdQ Q := hI.1.bd hL.2.1.bd
  obtain ⟨eG, eT, eK, etp, esl, eft, efo, emp, evw, ehu, eap, ean⟩ := id hI.1
  refine ⟨rfl, F, X, kz, Q, hL.1, by omega, by omega, fun x6 S5 hq => ?_⟩
  obtain ⟨hq, gW⟩ := hq
  obtain ⟨F6, hL6, -, -⟩ := hL.cls gW
  refine ⟨rfl, F6, z, Y, R, k2, ⟨hL6.2.1, hI.abc, fun hf n m hnm hm => hI.twk (by rw [← efo]; exact hf) (by omega) hm⟩, by omega, by omega, fun x9 S9 hr => ?_⟩
  obtain ⟨hr, hw⟩ := hr
  obtain ⟨F9, z9, Y9, hL9, -, -, -⟩ := hL6.ref hw
  refine ⟨fun _ => nx_st hk hj hA hL9 hI hK hcs hsl rfl rfl rfl (by omega) (by omega), fun w => absurd ?_ w⟩
  have eC : cxT R.Q 4 = cxT Q 4 := cxT_rel hI.1 4
  rcases hq with ⟨f1, rfl⟩ | ⟨f1, rfl⟩ <;> rcases hr with ⟨f2, rfl⟩ | ⟨f2, rfl⟩
  · rfl
  · rw [efo, f1] at f2; cases f2
  · rw [efo, f1] at f2; cases f2
  · rw [eC]
set_option maxRecDepth 100000 in
set_option maxHeartbeats 2000000 in
theorem lwc_an {r k : Nat} {A : List Int32} {lo : List (Nat × MV)} {st : List MV} {S1 : MM} {cs sl : Nat} (h : I_lc r A k lo st S1 cs sl) : GoL k r A 1458 lo st S1 cs sl := by
  obtain ⟨jn, t, m, o, F, X, kz, Q, z, Y, R, k2, hk, hj, hA, ⟨hL, hI, hK, hcs, hsl⟩, rfl, rfl⟩ := h
  refine ⟨300, ?_⟩
  show (∃ v_1 : Int32, (r = r ∧ vp_in ((nI (6 * jn)) + (1 : Int32)) A.length ∧ v_1 = A.getD ((nI (6 * jn)) + (1 : Int32)).toNatClampNeg 0) ∧ (∃ v_2 : Int32, (r = r ∧ vp_in ((nI (6 * jn)) + (2 : Int32)) A.length ∧ v_2 = A.getD ((nI (6 * jn)) + (2 : Int32)).toNatClampNeg 0) ∧ (∃ v_3 : Int32, (r = r ∧ vp_in ((nI (6 * jn)) + (3 : Int32)) A.length ∧ v_3 = A.getD ((nI (6 * jn)) + (3 : Int32)).toNatClampNeg 0) ∧ (2 = 2 ∧ (∃ (F_4 : Nat → Nat × Nat) (X_5 : Nat → GX) (kz_6 : Nat → Nat) (Q_7 : Ab), (WT S1 F_4 t X_5 kz_6 Q_7) ∧ cs + 3 ≤ 600128 ∧ sl + 18 ≤ 7301098 ∧ (∀ (x_9 : Int32) (S_8 : MM), ((x_9 = 0 ∧ (∃ i n j, i < 8 ∧ v_1 = nI i ∧ n < 4 ∧ v_2 = nI n ∧ v_3 = nI j ∧ ((j = visN (Q_7.G n) (Q_7.T n) ∧ wtQ S1 S_8 F_4 t X_5 kz_6 (Q_7.sAn (upF Q_7.ap i (some n)) (upF Q_7.an i none))) ∨ ∃ k, TxN (Q_7.G n) (Q_7.T n) j k ∧ wtQ S1 S_8 F_4 t X_5 kz_6 (Q_7.sAn (upF Q_7.ap i (some n)) (upF Q_7.an i (some k)))))) ∨ (x_9 = 1 ∧ S_8 = S1 ∧ (np 8 v_1 ∨ np 4 v_2 ∨ ∃ n, n < 4 ∧ v_2 = nI n ∧ np (visN (Q_7.G n) (Q_7.T n) + 1) v_3))) → (∃ v_10 : Int32, (r = r ∧ vp_in ((nI (6 * jn)) + (1 : Int32)) A.length ∧ v_10 = A.getD ((nI (6 * jn)) + (1 : Int32)).toNatClampNeg 0) ∧ (∃ v_11 : Int32, (r = r ∧ vp_in ((nI (6 * jn)) + (2 : Int32)) A.length ∧ v_11 = A.getD ((nI (6 * jn)) + (2 : Int32)).toNatClampNeg 0) ∧ (∃ v_12 : Int32, (r = r ∧ vp_in ((nI (6 * jn)) + (3 : Int32)) A.length ∧ v_12 = A.getD ((nI (6 * jn)) + (3 : Int32)).toNatClampNeg 0) ∧ (0 = 0 ∧ (∃ (F_13 : Nat → Nat × Nat) (z_14 : Nat → Nat) (Y_15 : Nat → Nat → Nat) (R_16 : Rb) (kz_17 : Nat → Nat), (MD S_8 F_13 m z_14 Y_15 R_16 kz_17) ∧ cs + 3 + 3 ≤ 600128 ∧ sl + 18 + 18 ≤ 7301098 ∧ (∀ (S_18 : MM), ((∃ i n j, i < 8 ∧ v_10 = nI i ∧ n < 4 ∧ v_11 = nI n ∧ v_12 = nI j ∧ ((j = visN (R_16.Q.G n) (R_16.Q.T n) ∧ mdW S_8 S_18 F_13 m (R_16.sQ (R_16.Q.sAn (upF R_16.Q.ap i (some n)) (upF R_16.Q.an i none))) kz_17 0) ∨ ∃ k, TxN (R_16.Q.G n) (R_16.Q.T n) j k ∧ mdW S_8 S_18 F_13 m (R_16.sQ (R_16.Q.sAn (upF R_16.Q.ap i (some n)) (upF R_16.Q.an i (some k)))) kz_17 0)) ∨ ((np 8 v_10 ∨ np 4 v_11 ∨ ∃ n, n < 4 ∧ v_11 = nI n ∧ np (visN (R_16.Q.G n) (R_16.Q.T n) + 1) v_12) ∧ mdW S_8 S_18 F_13 m R_16 kz_17 1)) → (0 = 0 ∧ (∃ (v9_19 : Int32), (isO S_18 15 m ∧ mI S_18 1551 m = v9_19) ∧ cs + 3 + 3 ≤ 600128 ∧ sl + 18 + 18 ≤ 7301098 ∧ (((v9_19 = x_9 → (∃ k1, k1 < k ∧ I_nx r A k1 [(0, .inr (.inr (some r))), (1, .inr (.inr (some t))), (2, .inr (.inr (some m))), (3, .inr (.inr (some o))), (4, .inl (nI (6 * jn)))] [] S_18 (cs + 3 + 3) (sl + 18 + 18))) ∧ (¬ v9_19 = x_9 → (([] : List MV) = [] ∧ retL (some (.inl (0 : Int32))) S_18 (cs + 3 + 3) (sl + 18 + 18)))))))))))))))))))
  obtain ⟨rc, rs⟩ := room_le hL.1 hI hK (show jn ≤ 64 by omega) hcs hsl
  have hB : BdQ Q := hI.1.bd hL.2.1.bd
  obtain ⟨eG, eT, eK, etp, esl, eft, efo, emp, evw, ehu, eap, ean⟩ := id hI.1
  refine ⟨_, hL.rd (k := 1) (by decide) (by omega) hA, _, hL.rd (k := 2) (by decide) (by omega) hA, _, hL.rd (k := 3) (by decide) (by omega) hA, rfl, F, X, kz, Q, hL.1, by omega, by omega, fun x9 S6 hq => ?_⟩
  have key : ∃ (c : Nat) (Q1 : Ab) (F6 : Nat → Nat × Nat), x9 = nI c ∧ ((c = 0 ∧ ∃ i n j, i < 8 ∧ (A.getD (6 * jn + 1) 0) = nI i ∧ n < 4 ∧ (A.getD (6 * jn + 2) 0) = nI n ∧ (A.getD (6 * jn + 3) 0) = nI j ∧ ((j = visN (Q.G n) (Q.T n) ∧ Q1 = Q.sAn (upF Q.ap i (some n)) (upF Q.an i none)) ∨ ∃ k, TxN (Q.G n) (Q.T n) j k ∧ Q1 = Q.sAn (upF Q.ap i (some n)) (upF Q.an i (some k)))) ∨ (c = 1 ∧ (np 8 (A.getD (6 * jn + 1) 0) ∨ np 4 (A.getD (6 * jn + 2) 0) ∨ ∃ n, n < 4 ∧ (A.getD (6 * jn + 2) 0) = nI n ∧ np (visN (Q.G n) (Q.T n) + 1) (A.getD (6 * jn + 3) 0)) ∧ Q1 = Q)) ∧ Lw S6 F6 t m o r A X kz Q1 z Y R k2 := by
    rcases hq with ⟨rfl, i, n, j, q0, q1, q2, q3, q4, ⟨q5, gW⟩ | ⟨k', q5, gW⟩⟩ | ⟨rfl, rfl, hb⟩
    · obtain ⟨F6, g1, -, -⟩ := hL.cls gW
      exact ⟨0, _, F6, rfl, Or.inl ⟨rfl, i, n, j, q0, q1, q2, q3, q4, Or.inl ⟨q5, rfl⟩⟩, g1⟩
    · obtain ⟨F6, g1, -, -⟩ := hL.cls gW
      exact ⟨0, _, F6, rfl, Or.inl ⟨rfl, i, n, j, q0, q1, q2, q3, q4, Or.inr ⟨k', q5, rfl⟩⟩, g1⟩
    · exact ⟨1, Q, F, rfl, Or.inr ⟨rfl, hb, rfl⟩, hL⟩
  obtain ⟨c, Q1, F6, hx, hc, hL6⟩ := key
  refine ⟨_, hL6.rd (k := 1) (by decide) (by omega) hA, _, hL6.rd (k := 2) (by decide) (by omega) hA, _, hL6.rd (k := 3) (by decide) (by omega) hA, rfl, F6, z, Y, R, k2, hL6.2.1, by omega, by omega, fun S9 hr => ?_⟩
  have key2 : ∃ (th : Nat) (R1 : Rb), ((th = 0 ∧ ∃ i n j, i < 8 ∧ (A.getD (6 * jn + 1) 0) = nI i ∧ n < 4 ∧ (A.getD (6 * jn + 2) 0) = nI n ∧ (A.getD (6 * jn + 3) 0) = nI j ∧ ((j = visN (R.Q.G n) (R.Q.T n) ∧ R1 = R.sQ (R.Q.sAn (upF R.Q.ap i (some n)) (upF R.Q.an i none))) ∨ ∃ k, TxN (R.Q.G n) (R.Q.T n) j k ∧ R1 = R.sQ (R.Q.sAn (upF R.Q.ap i (some n)) (upF R.Q.an i (some k))))) ∨ (th = 1 ∧ (np 8 (A.getD (6 * jn + 1) 0) ∨ np 4 (A.getD (6 * jn + 2) 0) ∨ ∃ n, n < 4 ∧ (A.getD (6 * jn + 2) 0) = nI n ∧ np (visN (R.Q.G n) (R.Q.T n) + 1) (A.getD (6 * jn + 3) 0)) ∧ R1 = R)) ∧ mdW S6 S9 F6 m R1 k2 th := by
    rcases hr with ⟨i, n, j, q0, q1, q2, q3, q4, ⟨q5, gW⟩ | ⟨k', q5, gW⟩⟩ | ⟨hb, gW⟩
    · exact ⟨0, _, Or.inl ⟨rfl, i, n, j, q0, q1, q2, q3, q4, Or.inl ⟨q5, rfl⟩⟩, gW⟩
    · exact ⟨0, _, Or.inl ⟨rfl, i, n, j, q0, q1, q2, q3, q4, Or.inr ⟨k', q5, rfl⟩⟩, gW⟩
    · exact ⟨1, _, Or.inr ⟨rfl, hb, rfl⟩, gW⟩
  obtain ⟨th, R1, hr, hw⟩ := key2
  obtain ⟨F9, z9, Y9, hL9, hth, -, -⟩ := hL6.ref hw
  obtain ⟨a1, a3⟩ := ag_an hB hI.1 hc hr
  have eR : R1.C = R.C ∧ R1.M = R.M ∧ R1.Q.G = R.Q.G ∧ fuS R1 = fuS R := by
    rcases hr with ⟨-, i, n, j, -, -, -, -, -, ⟨-, rfl⟩ | ⟨k', -, rfl⟩⟩ | ⟨-, -, rfl⟩ <;> exact ⟨rfl, rfl, rfl, rfl⟩
  have hI1 : LIv Q1 R1 ∧ Q1.G = Q.G := by
    rcases hc with ⟨-, i, n, j, -, -, -, -, -, ⟨-, rfl⟩ | ⟨k', -, rfl⟩⟩ | ⟨-, -, rfl⟩ <;> exact ⟨hI.cg a3 rfl rfl rfl rfl rfl rfl rfl eR.1 eR.2.1, rfl⟩
  exact lw_cmp0 hL9 (by rw [hth, a1, ← hx]) (by omega) (by omega) (nx_st hk hj hA hL9 hI1.1 hK hcs hsl hI1.2 eR.2.2.1 eR.2.2.2 (by omega) (by omega))
set_option maxRecDepth 100000 in
set_option maxHeartbeats 2000000 in
theorem lwc_lp {r k : Nat} {A : List Int32} {lo : List (Nat × MV)} {st : List MV} {S1 : MM} {cs sl : Nat} (h : I_lp r A k lo st S1 cs sl) : GoL k r A 23 lo st S1 cs sl := by
  obtain ⟨jn, t, m, o, F, X, kz, Q, z, Y, R, k2, hk, hj, hA, hs, rfl, rfl⟩ := h
  obtain ⟨hL, hI, hK, hcs, hsl⟩ := id hs
  refine ⟨300, ?_⟩
  show (∃ v_1 : Int32, (r = r ∧ v_1 = Int32.ofNat A.length) ∧ (((v_1 - (6 : Int32)) < (nI (6 * jn)) → (([] : List MV) = [] ∧ retL (some (.inl (1 : Int32))) S1 cs sl)) ∧ (¬ (v_1 - (6 : Int32)) < (nI (6 * jn)) → (∃ v_2 : Int32, (r = r ∧ vp_in (nI (6 * jn)) A.length ∧ v_2 = A.getD (nI (6 * jn)).toNatClampNeg 0) ∧ (((v_2 &&& (31 : Int32)).toInt < 0 ∨ 29 < (v_2 &&& (31 : Int32)).toInt → (∃ k1, k1 < k ∧ I_nx r A k1 [(0, .inr (.inr (some r))), (1, .inr (.inr (some t))), (2, .inr (.inr (some m))), (3, .inr (.inr (some o))), (4, .inl (nI (6 * jn)))] [] S1 cs sl)) ∧ (((v_2 &&& (31 : Int32)).toInt = 0 → (∃ k1, k1 < k ∧ I_lc r A k1 [(0, .inr (.inr (some r))), (1, .inr (.inr (some t))), (2, .inr (.inr (some m))), (3, .inr (.inr (some o))), (4, .inl (nI (6 * jn)))] [] S1 cs sl)) ∧ (((v_2 &&& (31 : Int32)).toInt = 1 → (∃ k1, k1 < k ∧ I_lc r A k1 [(0, .inr (.inr (some r))), (1, .inr (.inr (some t))), (2, .inr (.inr (some m))), (3, .inr (.inr (some o))), (4, .inl (nI (6 * jn)))] [] S1 cs sl)) ∧ (((v_2 &&& (31 : Int32)).toInt = 2 → (∃ k1, k1 < k ∧ I_lc r A k1 [(0, .inr (.inr (some r))), (1, .inr (.inr (some t))), (2, .inr (.inr (some m))), (3, .inr (.inr (some o))), (4, .inl (nI (6 * jn)))] [] S1 cs sl)) ∧ (((v_2 &&& (31 : Int32)).toInt = 3 → (∃ k1, k1 < k ∧ I_lc r A k1 [(0, .inr (.inr (some r))), (1, .inr (.inr (some t))), (2, .inr (.inr (some m))), (3, .inr (.inr (some o))), (4, .inl (nI (6 * jn)))] [] S1 cs sl)) ∧ (((v_2 &&& (31 : Int32)).toInt = 4 → (∃ k1, k1 < k ∧ I_lc r A k1 [(0, .inr (.inr (some r))), (1, .inr (.inr (some t))), (2, .inr (.inr (some m))), (3, .inr (.inr (some o))), (4, .inl (nI (6 * jn)))] [] S1 cs sl)) ∧ (((v_2 &&& (31 : Int32)).toInt = 5 → (∃ k1, k1 < k ∧ I_lc r A k1 [(0, .inr (.inr (some r))), (1, .inr (.inr (some t))), (2, .inr (.inr (some m))), (3, .inr (.inr (some o))), (4, .inl (nI (6 * jn)))] [] S1 cs sl)) ∧ (((v_2 &&& (31 : Int32)).toInt = 6 → (∃ k1, k1 < k ∧ I_lc r A k1 [(0, .inr (.inr (some r))), (1, .inr (.inr (some t))), (2, .inr (.inr (some m))), (3, .inr (.inr (some o))), (4, .inl (nI (6 * jn)))] [] S1 cs sl)) ∧ (((v_2 &&& (31 : Int32)).toInt = 7 → (∃ k1, k1 < k ∧ I_lc r A k1 [(0, .inr (.inr (some r))), (1, .inr (.inr (some t))), (2, .inr (.inr (some m))), (3, .inr (.inr (some o))), (4, .inl (nI (6 * jn)))] [] S1 cs sl)) ∧ (((v_2 &&& (31 : Int32)).toInt = 8 → (∃ k1, k1 < k ∧ I_lc r A k1 [(0, .inr (.inr (some r))), (1, .inr (.inr (some t))), (2, .inr (.inr (some m))), (3, .inr (.inr (some o))), (4, .inl (nI (6 * jn)))] [] S1 cs sl)) ∧ (((v_2 &&& (31 : Int32)).toInt = 9 → (∃ k1, k1 < k ∧ I_lc r A k1 [(0, .inr (.inr (some r))), (1, .inr (.inr (some t))), (2, .inr (.inr (some m))), (3, .inr (.inr (some o))), (4, .inl (nI (6 * jn)))] [] S1 cs sl)) ∧ (((v_2 &&& (31 : Int32)).toInt = 10 → (∃ k1, k1 < k ∧ I_lc r A k1 [(0, .inr (.inr (some r))), (1, .inr (.inr (some t))), (2, .inr (.inr (some m))), (3, .inr (.inr (some o))), (4, .inl (nI (6 * jn)))] [] S1 cs sl)) ∧ (((v_2 &&& (31 : Int32)).toInt = 11 → (∃ k1, k1 < k ∧ I_lc r A k1 [(0, .inr (.inr (some r))), (1, .inr (.inr (some t))), (2, .inr (.inr (some m))), (3, .inr (.inr (some o))), (4, .inl (nI (6 * jn)))] [] S1 cs sl)) ∧ (((v_2 &&& (31 : Int32)).toInt = 12 → (∃ k1, k1 < k ∧ I_lc r A k1 [(0, .inr (.inr (some r))), (1, .inr (.inr (some t))), (2, .inr (.inr (some m))), (3, .inr (.inr (some o))), (4, .inl (nI (6 * jn)))] [] S1 cs sl)) ∧ (((v_2 &&& (31 : Int32)).toInt = 13 → (∃ k1, k1 < k ∧ I_lc r A k1 [(0, .inr (.inr (some r))), (1, .inr (.inr (some t))), (2, .inr (.inr (some m))), (3, .inr (.inr (some o))), (4, .inl (nI (6 * jn)))] [] S1 cs sl)) ∧ (((v_2 &&& (31 : Int32)).toInt = 14 → (∃ k1, k1 < k ∧ I_lc r A k1 [(0, .inr (.inr (some r))), (1, .inr (.inr (some t))), (2, .inr (.inr (some m))), (3, .inr (.inr (some o))), (4, .inl (nI (6 * jn)))] [] S1 cs sl)) ∧ (((v_2 &&& (31 : Int32)).toInt = 15 → (∃ k1, k1 < k ∧ I_lc r A k1 [(0, .inr (.inr (some r))), (1, .inr (.inr (some t))), (2, .inr (.inr (some m))), (3, .inr (.inr (some o))), (4, .inl (nI (6 * jn)))] [] S1 cs sl)) ∧ (((v_2 &&& (31 : Int32)).toInt = 16 → (∃ k1, k1 < k ∧ I_lc r A k1 [(0, .inr (.inr (some r))), (1, .inr (.inr (some t))), (2, .inr (.inr (some m))), (3, .inr (.inr (some o))), (4, .inl (nI (6 * jn)))] [] S1 cs sl)) ∧ (((v_2 &&& (31 : Int32)).toInt = 17 → (∃ k1, k1 < k ∧ I_lc r A k1 [(0, .inr (.inr (some r))), (1, .inr (.inr (some t))), (2, .inr (.inr (some m))), (3, .inr (.inr (some o))), (4, .inl (nI (6 * jn)))] [] S1 cs sl)) ∧ (((v_2 &&& (31 : Int32)).toInt = 18 → (∃ k1, k1 < k ∧ I_lc r A k1 [(0, .inr (.inr (some r))), (1, .inr (.inr (some t))), (2, .inr (.inr (some m))), (3, .inr (.inr (some o))), (4, .inl (nI (6 * jn)))] [] S1 cs sl)) ∧ (((v_2 &&& (31 : Int32)).toInt = 19 → (∃ k1, k1 < k ∧ I_lc r A k1 [(0, .inr (.inr (some r))), (1, .inr (.inr (some t))), (2, .inr (.inr (some m))), (3, .inr (.inr (some o))), (4, .inl (nI (6 * jn)))] [] S1 cs sl)) ∧ (((v_2 &&& (31 : Int32)).toInt = 20 → (∃ k1, k1 < k ∧ I_lc r A k1 [(0, .inr (.inr (some r))), (1, .inr (.inr (some t))), (2, .inr (.inr (some m))), (3, .inr (.inr (some o))), (4, .inl (nI (6 * jn)))] [] S1 cs sl)) ∧ (((v_2 &&& (31 : Int32)).toInt = 21 → (∃ k1, k1 < k ∧ I_lc r A k1 [(0, .inr (.inr (some r))), (1, .inr (.inr (some t))), (2, .inr (.inr (some m))), (3, .inr (.inr (some o))), (4, .inl (nI (6 * jn)))] [] S1 cs sl)) ∧ (((v_2 &&& (31 : Int32)).toInt = 22 → (∃ k1, k1 < k ∧ I_lc r A k1 [(0, .inr (.inr (some r))), (1, .inr (.inr (some t))), (2, .inr (.inr (some m))), (3, .inr (.inr (some o))), (4, .inl (nI (6 * jn)))] [] S1 cs sl)) ∧ (((v_2 &&& (31 : Int32)).toInt = 23 → (∃ k1, k1 < k ∧ I_lc r A k1 [(0, .inr (.inr (some r))), (1, .inr (.inr (some t))), (2, .inr (.inr (some m))), (3, .inr (.inr (some o))), (4, .inl (nI (6 * jn)))] [] S1 cs sl)) ∧ (((v_2 &&& (31 : Int32)).toInt = 24 → (∃ k1, k1 < k ∧ I_lc r A k1 [(0, .inr (.inr (some r))), (1, .inr (.inr (some t))), (2, .inr (.inr (some m))), (3, .inr (.inr (some o))), (4, .inl (nI (6 * jn)))] [] S1 cs sl)) ∧ (((v_2 &&& (31 : Int32)).toInt = 25 → (∃ k1, k1 < k ∧ I_lc r A k1 [(0, .inr (.inr (some r))), (1, .inr (.inr (some t))), (2, .inr (.inr (some m))), (3, .inr (.inr (some o))), (4, .inl (nI (6 * jn)))] [] S1 cs sl)) ∧ (((v_2 &&& (31 : Int32)).toInt = 26 → (∃ k1, k1 < k ∧ I_lc r A k1 [(0, .inr (.inr (some r))), (1, .inr (.inr (some t))), (2, .inr (.inr (some m))), (3, .inr (.inr (some o))), (4, .inl (nI (6 * jn)))] [] S1 cs sl)) ∧ (((v_2 &&& (31 : Int32)).toInt = 27 → (∃ k1, k1 < k ∧ I_lc r A k1 [(0, .inr (.inr (some r))), (1, .inr (.inr (some t))), (2, .inr (.inr (some m))), (3, .inr (.inr (some o))), (4, .inl (nI (6 * jn)))] [] S1 cs sl)) ∧ (((v_2 &&& (31 : Int32)).toInt = 28 → (∃ k1, k1 < k ∧ I_lc r A k1 [(0, .inr (.inr (some r))), (1, .inr (.inr (some t))), (2, .inr (.inr (some m))), (3, .inr (.inr (some o))), (4, .inl (nI (6 * jn)))] [] S1 cs sl)) ∧ (((v_2 &&& (31 : Int32)).toInt = 29 → (∃ k1, k1 < k ∧ I_lc r A k1 [(0, .inr (.inr (some r))), (1, .inr (.inr (some t))), (2, .inr (.inr (some m))), (3, .inr (.inr (some o))), (4, .inl (nI (6 * jn)))] [] S1 cs sl)) ∧ True)))))))))))))))))))))))))))))))))))
  obtain ⟨rc, rs⟩ := room_le hL.1 hI hK hj hcs hsl
  have sb : (nI A.length - (6 : Int32)).toInt = (A.length : Int) - 6 := sub_toInt (a := A.length) (b := 6) (by omega) (by decide)
  have ij : (nI (6 * jn)).toInt = ((6 * jn : Nat) : Int) := nI_toInt (by omega)
  refine ⟨nI A.length, ⟨rfl, rfl⟩, fun _ => ⟨rfl, rfl, by omega, by omega⟩, fun w => ?_⟩
  have h6 : 6 * jn + 6 ≤ A.length := by
    have w2 : ¬ ((A.length : Int) - 6 < ((6 * jn : Nat) : Int)) := fun q => w (Int32.lt_iff_toInt_lt.2 (by rw [sb, ij]; exact q))
    omega
  have lc : ∃ k1, k1 < k ∧ I_lc r A k1 (lwL r t m o jn) [] S1 cs sl := ⟨k - 1, by omega, jn, t, m, o, F, X, kz, Q, z, Y, R, k2, by omega, h6, hA, hs, rfl, rfl⟩
  have nx : ∃ k1, k1 < k ∧ I_nx r A k1 (lwL r t m o jn) [] S1 cs sl := ⟨k - 2, by omega, jn, t, m, o, F, X, kz, Q, z, Y, R, k2, by omega, h6, hA, ⟨hL, hI, hK, by unfold cB at *; omega, by unfold zB at *; omega⟩, rfl, rfl⟩
  exact ⟨_, hL.rd0 (i := 6 * jn) (by omega) hA, fun _ => nx, fun _ => lc, fun _ => lc, fun _ => lc, fun _ => lc, fun _ => lc, fun _ => lc, fun _ => lc, fun _ => lc, fun _ => lc, fun _ => lc, fun _ => lc, fun _ => lc, fun _ => lc, fun _ => lc, fun _ => lc, fun _ => lc, fun _ => lc, fun _ => lc, fun _ => lc, fun _ => lc, fun _ => lc, fun _ => lc, fun _ => lc, fun _ => lc, fun _ => lc, fun _ => lc, fun _ => lc, fun _ => lc, fun _ => lc, fun _ => lc, trivial⟩
set_option maxRecDepth 100000 in
set_option maxHeartbeats 2000000 in
theorem lwc_nx {r k : Nat} {A : List Int32} {lo : List (Nat × MV)} {st : List MV} {S1 : MM} {cs sl : Nat} (h : I_nx r A k lo st S1 cs sl) : GoL k r A 2088 lo st S1 cs sl := by
  obtain ⟨jn, t, m, o, F, X, kz, Q, z, Y, R, k2, hk, hj, hA, hs, rfl, rfl⟩ := h
  refine ⟨300, ?_⟩
  show (∃ k1, k1 < k ∧ I_lp r A k1 [(0, .inr (.inr (some r))), (1, .inr (.inr (some t))), (2, .inr (.inr (some m))), (3, .inr (.inr (some o))), (4, .inl ((nI (6 * jn)) + (6 : Int32)))] [] S1 cs sl)
  refine ⟨k - 1, by omega, jn + 1, t, m, o, F, X, kz, Q, z, Y, R, k2, by omega, by omega, hA, hs, ?_, rfl⟩
  unfold lwL
  rw [nI_lit (6 * jn) 6 (c := 6) (by decide)]
  rfl
