/-! ===== The law: feed, announce ===== -/
theorem capN_b {cap len : Nat} (h : ∃ k, k ≤ 9 ∧ cap = 64 * 2 ^ k) : ∀ n, ∃ k, k ≤ 9 ∧ capN n cap len = 64 * 2 ^ k
  | 0 => h
  | n + 1 => by
    obtain ⟨k, k1, k2⟩ := capN_b (len := len) h n
    rw [capN]
    split
    · next w =>
      refine ⟨k + 1, ?_, by rw [k2, Nat.pow_succ]; omega⟩
      refine Nat.succ_le_of_lt (Nat.lt_of_le_of_ne k1 (fun e => ?_))
      rw [k2, e] at w
      have e9 : 64 * 2 ^ 9 = 32768 := by decide
      omega
    · exact ⟨k, k1, k2⟩
theorem pw_le {c : Nat} (h : ∃ k, k ≤ 9 ∧ c = 64 * 2 ^ k) : 64 ≤ c ∧ c ≤ 32768 ∧ (16384 < c → c = 32768) := by
  obtain ⟨k, k1, rfl⟩ := h
  have h1 : 1 ≤ 2 ^ k := Nat.one_le_two_pow
  have h2 : 2 ^ k ≤ 2 ^ 9 := Nat.pow_le_pow_right (by decide) k1
  have e9 : 2 ^ 9 = 512 := by decide
  refine ⟨by omega, by omega, fun w => ?_⟩
  rcases Nat.lt_or_ge k 9 with q | q
  · have h3 : 2 ^ k ≤ 2 ^ 8 := Nat.pow_le_pow_right (by decide) (by omega)
    have e8 : 2 ^ 8 = 256 := by decide
    omega
  · have : k = 9 := by omega
    rw [this]
theorem WT.kp {S : MM} {F : Nat → Nat × Nat} {t : Nat} {X : Nat → GX} {kz : Nat → Nat} {Q : Ab} (h : WT S F t X kz Q) : (∃ k, k ≤ 9 ∧ kz 0 = 64 * 2 ^ k) ∧ (∀ i, i < 8 → ∃ k, k ≤ 9 ∧ kz (20 + i) = 64 * 2 ^ k) ∧ Q.tp.length ≤ kz 0 := by
  obtain ⟨z, h1, h2, ⟨d0, b0⟩, -, h5, -⟩ := h
  refine ⟨?_, fun i hi => ?_, ?_⟩
  · have := b0.1.2.2.2.2.2.1
    rw [b0.2.2.2] at this
    exact this
  · obtain ⟨d, b⟩ := h5 i hi
    have := b.1.2.2.2.2.2.1
    rw [b.2.2.2] at this
    exact this
  · have := b0.1.2.2.2.2.1
    rw [b0.2.2.2] at this
    exact this
theorem kzB.v0 {kz : Nat → Nat} (h : kzB kz) {v : Nat} (hv : v ≤ 32768) : kzB (upF kz 0 v) := by
  obtain ⟨h0, h1, h2, h3, h4, h5, h6, h7⟩ := h
  exact ⟨by rw [upF_s]; exact hv, by rw [upF_o (by decide)]; exact h1, fun k hk => by rw [upF_o (by omega)]; exact h2 k hk, fun k hk => by rw [upF_o (by omega)]; exact h3 k hk, by rw [upF_o (by decide)]; exact h4, by rw [upF_o (by decide)]; exact h5, fun k hk => by rw [upF_o (by omega)]; exact h6 k hk, by rw [upF_o (by decide)]; exact h7⟩
theorem kzB.v20 {kz : Nat → Nat} (h : kzB kz) {i v : Nat} (hi : i < 8) (hv : v ≤ 32768) : kzB (upF kz (20 + i) v) := by
  obtain ⟨h0, h1, h2, h3, h4, h5, h6, h7⟩ := h
  refine ⟨by rw [upF_o (by omega)]; exact h0, by rw [upF_o (by omega)]; exact h1, fun k hk => ?_, fun k hk => by rw [upF_o (by omega)]; exact h3 k hk, by rw [upF_o (by omega)]; exact h4, by rw [upF_o (by omega)]; exact h5, fun k hk => by rw [upF_o (by omega)]; exact h6 k hk, by rw [upF_o (by omega)]; exact h7⟩
  by_cases e : k = i
  · rw [e, upF_s]; exact hv
  · rw [upF_o (by omega)]; exact h2 k hk
theorem LIk.up {kz k2 : Nat → Nat} (h : LIk kz k2) {u v : Nat} (hu : u < 10 ∨ (10 < u ∧ u < 30) ∨ (33 < u ∧ u < 50)) : LIk (upF kz u v) k2 := by
  obtain ⟨h1, h2, h3, h4⟩ := h
  refine ⟨by rw [upF_o (by omega)]; exact h1, fun p hp => by rw [upF_o (by omega)]; exact h2 p hp, by rw [upF_o (by omega)]; exact h3, h4⟩
theorem fit_r {j cs sl C Z C2 Z2 : Nat} {Q Q1 : Ab} {kz kz1 k2 k21 : Nat → Nat} {R R1 : Rb} (hj : j ≤ 63) (hcs : cs ≤ cB j Q kz R k2) (hsl : sl ≤ zB j Q kz R k2) (h1 : C + pCc Q kz ≤ pCc Q1 kz1 + 500) (h2 : Z + pZc Q kz ≤ pZc Q1 kz1 + 4000) (hg : ∀ p, p < 4 → (Q1.G p).ok) (hb : kzB kz1) (hr : ∀ p, p < 4 → (R1.Q.G p).ok) (b1 : k21 40 ≤ 16384) (b2 : k21 47 ≤ 65536) (b3 : k21 24 ≤ 65536) (b4 : k21 9 ≤ 32768) (h3 : C2 + pCr R k2 ≤ pCr R1 k21 + 500) (h4 : Z2 + pZr R k2 ≤ pZr R1 k21 + 4000) : cs + C + C2 ≤ 600000 ∧ sl + Z + Z2 ≤ 7300000 := by
  obtain ⟨p1, p2⟩ := pc_b hg hb
  obtain ⟨p3, p4⟩ := pr_b hr b1 b2 b3 b4
  unfold cB at hcs
  unfold zB at hsl
  omega
theorem fuS_kp (R : Rb) {i : Nat} {B : List Nat} (hi : i < 8) (hB : B ≠ []) : fuS (kpR R i B) = fuS R + if R.Q.sl i = [] then 1 else 0 := by
  refine smN_up (s := i) ?_ (fun u hu => ?_) hi
  · show (if upF R.Q.sl i B i = [] then 0 else 1) = (if R.Q.sl i = [] then 0 else 1) + _
    rw [upF_s, if_neg hB]
    split <;> rfl
  · show (if upF R.Q.sl i B u = [] then 0 else 1) = _
    rw [upF_o hu]
set_option maxRecDepth 100000 in
set_option maxHeartbeats 2000000 in
theorem lwc_fd {r k : Nat} {A : List Int32} {lo : List (Nat × MV)} {st : List MV} {S1 : MM} {cs sl : Nat} (h : I_lc r A k lo st S1 cs sl) : GoL k r A 176 lo st S1 cs sl := by
  obtain ⟨jn, t, m, o, F, X, kz, Q, z, Y, R, k2, hk, hj, hA, ⟨hL, hI, hK, hcs, hsl⟩, rfl, rfl⟩ := h
  refine ⟨300, ?_⟩
  show (∃ v_1 : Int32, (r = r ∧ vp_in ((nI (6 * jn)) + (1 : Int32)) A.length ∧ v_1 = A.getD ((nI (6 * jn)) + (1 : Int32)).toNatClampNeg 0) ∧ (∃ v_2 : Int32, (r = r ∧ vp_in ((nI (6 * jn)) + (2 : Int32)) A.length ∧ v_2 = A.getD ((nI (6 * jn)) + (2 : Int32)).toNatClampNeg 0) ∧ (∃ v_3 : Int32, (r = r ∧ vp_in ((nI (6 * jn)) + (3 : Int32)) A.length ∧ v_3 = A.getD ((nI (6 * jn)) + (3 : Int32)).toNatClampNeg 0) ∧ (∃ v_4 : Int32, (r = r ∧ vp_in ((nI (6 * jn)) + (4 : Int32)) A.length ∧ v_4 = A.getD ((nI (6 * jn)) + (4 : Int32)).toNatClampNeg 0) ∧ (∃ v_5 : Int32, (r = r ∧ vp_in ((nI (6 * jn)) + (5 : Int32)) A.length ∧ v_5 = A.getD ((nI (6 * jn)) + (5 : Int32)).toNatClampNeg 0) ∧ (2 = 2 ∧ (∃ (F_6 : Nat → Nat × Nat) (X_7 : Nat → GX) (kz_8 : Nat → Nat) (Q_9 : Ab), (WT S1 F_6 t X_7 kz_8 Q_9) ∧ cs + (addNC 20 (kz_8 0) Q_9.tp.length + 1) ≤ 600128 ∧ sl + (addNS 20 (kz_8 0) Q_9.tp.length + 6) ≤ 7301098 ∧ (∀ (x_11 : Int32) (S_10 : MM), ((x_11 = 0 ∧ (Q_9.tp.length + 20 ≤ 32768 ∧ wtQ S1 S_10 F_6 t X_7 (upF kz_8 0 (capN 20 (kz_8 0) Q_9.tp.length)) (Q_9.sTp (bPuts Q_9.tp (feedB v_1 v_2 v_3 v_4 v_5))))) ∨ (x_11 = 1 ∧ S_10 = S1 ∧ (32768 < Q_9.tp.length + 20))) → (∃ v_12 : Int32, (r = r ∧ vp_in ((nI (6 * jn)) + (1 : Int32)) A.length ∧ v_12 = A.getD ((nI (6 * jn)) + (1 : Int32)).toNatClampNeg 0) ∧ (∃ v_13 : Int32, (r = r ∧ vp_in ((nI (6 * jn)) + (2 : Int32)) A.length ∧ v_13 = A.getD ((nI (6 * jn)) + (2 : Int32)).toNatClampNeg 0) ∧ (∃ v_14 : Int32, (r = r ∧ vp_in ((nI (6 * jn)) + (3 : Int32)) A.length ∧ v_14 = A.getD ((nI (6 * jn)) + (3 : Int32)).toNatClampNeg 0) ∧ (∃ v_15 : Int32, (r = r ∧ vp_in ((nI (6 * jn)) + (4 : Int32)) A.length ∧ v_15 = A.getD ((nI (6 * jn)) + (4 : Int32)).toNatClampNeg 0) ∧ (∃ v_16 : Int32, (r = r ∧ vp_in ((nI (6 * jn)) + (5 : Int32)) A.length ∧ v_16 = A.getD ((nI (6 * jn)) + (5 : Int32)).toNatClampNeg 0) ∧ (0 = 0 ∧ (∃ (F_17 : Nat → Nat × Nat) (z_18 : Nat → Nat) (Y_19 : Nat → Nat → Nat) (R_20 : Rb) (kz_21 : Nat → Nat), (MD S_10 F_17 m z_18 Y_19 R_20 kz_21) ∧ cs + (addNC 20 (kz_8 0) Q_9.tp.length + 1) + 1 ≤ 600128 ∧ sl + (addNS 20 (kz_8 0) Q_9.tp.length + 6) + 6 ≤ 7301098 ∧ (∀ (S_22 : MM), ((R_20.Q.tp.length + 20 ≤ 32768 ∧ mdW S_10 S_22 F_17 m (fdR R_20 v_12 v_13 v_14 v_15 v_16) kz_21 0) ∨ ((32768 < R_20.Q.tp.length + 20) ∧ mdW S_10 S_22 F_17 m R_20 kz_21 1)) → (0 = 0 ∧ (∃ (v9_23 : Int32), (isO S_22 15 m ∧ mI S_22 1551 m = v9_23) ∧ cs + (addNC 20 (kz_8 0) Q_9.tp.length + 1) + 1 ≤ 600128 ∧ sl + (addNS 20 (kz_8 0) Q_9.tp.length + 6) + 6 ≤ 7301098 ∧ (((v9_23 = x_11 → (∃ k1, k1 < k ∧ I_nx r A k1 [(0, .inr (.inr (some r))), (1, .inr (.inr (some t))), (2, .inr (.inr (some m))), (3, .inr (.inr (some o))), (4, .inl (nI (6 * jn)))] [] S_22 (cs + (addNC 20 (kz_8 0) Q_9.tp.length + 1) + 1) (sl + (addNS 20 (kz_8 0) Q_9.tp.length + 6) + 6))) ∧ (¬ v9_23 = x_11 → (([] : List MV) = [] ∧ retL (some (.inl (0 : Int32))) S_22 (cs + (addNC 20 (kz_8 0) Q_9.tp.length + 1) + 1) (sl + (addNS 20 (kz_8 0) Q_9.tp.length + 6) + 6)))))))))))))))))))))))
  obtain ⟨rc, rs⟩ := room_le hL.1 hI hK (show jn ≤ 64 by omega) hcs hsl
  have hB : BdQ Q := hI.1.bd hL.2.1.bd
  obtain ⟨eG, eT, eK, etp, esl, eft, efo, emp, evw, ehu, eap, ean⟩ := id hI.1
  have gok : ∀ p, p < 4 → (Q.G p).ok := fun p hp => (hI.2.2.2.1 p hp).1.1
  have hb := kzB.of hL.1 hK
  obtain ⟨w0, -, w2⟩ := hL.1.kp
  obtain ⟨u1, u2, u3⟩ := pw_le (capN_b (len := Q.tp.length) w0 20)
  obtain ⟨u4, u5, u6⟩ := pw_le w0
  have n9 := addNC_9 (n := 20) (len := Q.tp.length) u4 u2
  have ns := addNS_eq (cap := kz 0) (len := Q.tp.length) 20
  obtain ⟨e1, e2⟩ := pc_0 Q kz (capN 20 (kz 0) Q.tp.length)
  have g1 : (addNC 20 (kz 0) Q.tp.length + 1) + pCc Q kz ≤ pCc Q (upF kz 0 (capN 20 (kz 0) Q.tp.length)) + 500 := by omega
  have g2 : (addNS 20 (kz 0) Q.tp.length + 6) + pZc Q kz ≤ pZc Q (upF kz 0 (capN 20 (kz 0) Q.tp.length)) + 4000 := by omega
  have fit := fit_c hI hK (show jn ≤ 63 by omega) hcs hsl gok (hb.v0 u2) g1 g2
  refine ⟨_, hL.rd (k := 1) (by decide) (by omega) hA, _, hL.rd (k := 2) (by decide) (by omega) hA, _, hL.rd (k := 3) (by decide) (by omega) hA, _, hL.rd (k := 4) (by decide) (by omega) hA, _, hL.rd (k := 5) (by decide) (by omega) hA, rfl, F, X, kz, Q, hL.1, by omega, by omega, fun x9 S6 hq => ?_⟩
  generalize hTB : bPuts Q.tp (feedB (A.getD (6 * jn + 1) 0) (A.getD (6 * jn + 2) 0) (A.getD (6 * jn + 3) 0) (A.getD (6 * jn + 4) 0) (A.getD (6 * jn + 5) 0)) = TB at hq
  generalize addNC 20 (kz 0) Q.tp.length = NC at *
  generalize addNS 20 (kz 0) Q.tp.length = NS at *
  generalize capN 20 (kz 0) Q.tp.length = CN at *
  have key : ∃ (c : Nat) (Q1 : Ab) (kz1 : Nat → Nat) (F6 : Nat → Nat × Nat), x9 = nI c ∧ ((c = 0 ∧ Q.tp.length + 20 ≤ 32768 ∧ Q1 = Q.sTp TB) ∨ (c = 1 ∧ 32768 < Q.tp.length + 20 ∧ Q1 = Q)) ∧ ((NC + 1) + pCc Q kz ≤ pCc Q1 kz1 + 500 ∧ (NS + 6) + pZc Q kz ≤ pZc Q1 kz1 + 4000 ∧ LIk kz1 k2) ∧ Lw S6 F6 t m o r A X kz1 Q1 z Y R k2 := by
    rcases hq with ⟨rfl, q0, gW⟩ | ⟨rfl, rfl, h1⟩
    · obtain ⟨F6, g3, -, -⟩ := hL.cls gW
      exact ⟨0, Q.sTp TB, upF kz 0 CN, F6, rfl, Or.inl ⟨rfl, q0, rfl⟩, ⟨g1, g2, hK.up (by omega)⟩, g3⟩
    · have := u6 (by omega)
      exact ⟨1, Q, kz, F, rfl, Or.inr ⟨rfl, h1, rfl⟩, ⟨by omega, by omega, hK⟩, hL⟩
  obtain ⟨c, Q1, kz1, F6, hx, hc, ⟨p1, p2, hK1⟩, hL6⟩ := key
  have sq : Q1.G = Q.G ∧ Q1.T = Q.T ∧ Q1.E = Q.E ∧ Q1.mp = Q.mp ∧ Q1.ms = Q.ms ∧ Q1.sl = Q.sl ∧ Q1.fo = Q.fo := by
    rcases hc with ⟨-, -, rfl⟩ | ⟨-, -, rfl⟩ <;> exact ⟨rfl, rfl, rfl, rfl, rfl, rfl, rfl⟩
  rw [← hTB] at hc
  refine ⟨_, hL6.rd (k := 1) (by decide) (by omega) hA, _, hL6.rd (k := 2) (by decide) (by omega) hA, _, hL6.rd (k := 3) (by decide) (by omega) hA, _, hL6.rd (k := 4) (by decide) (by omega) hA, _, hL6.rd (k := 5) (by decide) (by omega) hA, rfl, F6, z, Y, R, k2, hL6.2.1, by omega, by omega, fun S9 hr => ?_⟩
  have key2 : ∃ (th : Nat) (R1 : Rb), ((th = 0 ∧ R.Q.tp.length + 20 ≤ 32768 ∧ R1 = fdR R (A.getD (6 * jn + 1) 0) (A.getD (6 * jn + 2) 0) (A.getD (6 * jn + 3) 0) (A.getD (6 * jn + 4) 0) (A.getD (6 * jn + 5) 0)) ∨ (th = 1 ∧ 32768 < R.Q.tp.length + 20 ∧ R1 = R)) ∧ mdW S6 S9 F6 m R1 k2 th := by
    rcases hr with ⟨q0, gW⟩ | ⟨q0, gW⟩
    · exact ⟨0, _, Or.inl ⟨rfl, q0, rfl⟩, gW⟩
    · exact ⟨1, _, Or.inr ⟨rfl, q0, rfl⟩, gW⟩
  obtain ⟨th, R1, hr, hw⟩ := key2
  obtain ⟨F9, z9, Y9, hL9, hth, -, -⟩ := hL6.ref hw
  obtain ⟨a1, a3⟩ := ag_fd hI.1 hc hr
  have eR : R1.C = R.C ∧ R1.M = R.M ∧ pCr R1 k2 = pCr R k2 ∧ pZr R1 k2 = pZr R k2 := by
    rcases hr with ⟨-, -, rfl⟩ | ⟨-, -, rfl⟩ <;> exact ⟨rfl, rfl, rfl, rfl⟩
  have hI1 : LIv Q1 R1 := hI.cg a3 sq.1 sq.2.1 sq.2.2.1 sq.2.2.2.1 sq.2.2.2.2.1 sq.2.2.2.2.2.1 sq.2.2.2.2.2.2 eR.1 eR.2.1
  exact lw_cmp0 hL9 (by rw [hth, a1, ← hx]) (by omega) (by omega) (nx_k (C2 := 1) (Z2 := 6) hk hj hA hL9 hI1 hK1 hcs hsl p1 p2 (by rw [eR.2.2.1]; omega) (by rw [eR.2.2.2]; omega) (by omega) (by omega))
set_option maxRecDepth 100000 in
set_option maxHeartbeats 2000000 in
theorem lwc_ac {r k : Nat} {A : List Int32} {lo : List (Nat × MV)} {st : List MV} {S1 : MM} {cs sl : Nat} (h : I_lc r A k lo st S1 cs sl) : GoL k r A 1574 lo st S1 cs sl := by
  obtain ⟨jn, t, m, o, F, X, kz, Q, z, Y, R, k2, hk, hj, hA, ⟨hL, hI, hK, hcs, hsl⟩, rfl, rfl⟩ := h
  refine ⟨300, ?_⟩
  show (∃ v_1 : Int32, (r = r ∧ vp_in ((nI (6 * jn)) + (1 : Int32)) A.length ∧ v_1 = A.getD ((nI (6 * jn)) + (1 : Int32)).toNatClampNeg 0) ∧ (∃ v_2 : Int32, (r = r ∧ vp_in ((nI (6 * jn)) + (2 : Int32)) A.length ∧ v_2 = A.getD ((nI (6 * jn)) + (2 : Int32)).toNatClampNeg 0) ∧ (2 = 2 ∧ (∃ (F_3 : Nat → Nat × Nat) (X_4 : Nat → GX) (kz_5 : Nat → Nat) (Q_6 : Ab), ((WT S1 F_3 t X_4 kz_5 Q_6) ∧ lwO S1 F_3 o) ∧ cs + (nc_i (∃ n i, n < 4 ∧ v_1 = nI n ∧ i < 8 ∧ v_2 = nI i) (anC kz_5 Q_6 v_1 v_2) + 2) ≤ 600128 ∧ sl + (nc_i (∃ n i, n < 4 ∧ v_1 = nI n ∧ i < 8 ∧ v_2 = nI i) (anZ kz_5 Q_6 v_1 v_2) + 12) ≤ 7301098 ∧ (∀ (x_8 : Int32) (S_7 : MM), ((x_8 = 0 ∧ ∃ (v0 : Int32) (S0 : MM), (∃ n i, n < 4 ∧ v_1 = nI n ∧ i < 8 ∧ v_2 = nI i ∧ v0 = nI (bPuts [] (sumA (Q_6.G n) n)).length ∧ wtQ S1 S0 F_3 t X_4 (upF kz_5 (20 + i) (capN (sumA (Q_6.G n) n).length (kz_5 (20 + i)) 0)) (Q_6.sSl (upF Q_6.sl i (bPuts [] (sumA (Q_6.G n) n))))) ∧ S_7 = loJ S0 o v0.toInt64) ∨ (x_8 = 1 ∧ S_7 = S1 ∧ (np 4 v_1 ∨ np 8 v_2))) → (∃ v_9 : Int32, (r = r ∧ vp_in ((nI (6 * jn)) + (1 : Int32)) A.length ∧ v_9 = A.getD ((nI (6 * jn)) + (1 : Int32)).toNatClampNeg 0) ∧ (∃ v_10 : Int32, (r = r ∧ vp_in ((nI (6 * jn)) + (2 : Int32)) A.length ∧ v_10 = A.getD ((nI (6 * jn)) + (2 : Int32)).toNatClampNeg 0) ∧ (0 = 0 ∧ (∃ (F_11 : Nat → Nat × Nat) (z_12 : Nat → Nat) (Y_13 : Nat → Nat → Nat) (R_14 : Rb) (kz_15 : Nat → Nat), (MD S_7 F_11 m z_12 Y_13 R_14 kz_15) ∧ cs + (nc_i (∃ n i, n < 4 ∧ v_1 = nI n ∧ i < 8 ∧ v_2 = nI i) (anC kz_5 Q_6 v_1 v_2) + 2) + (2 + nc_i (∃ n i, n < 4 ∧ v_9 = nI n ∧ i < 8 ∧ v_10 = nI i) (kpC R_14 v_10.toNatClampNeg)) ≤ 600128 ∧ sl + (nc_i (∃ n i, n < 4 ∧ v_1 = nI n ∧ i < 8 ∧ v_2 = nI i) (anZ kz_5 Q_6 v_1 v_2) + 12) + (12 + nc_i (∃ n i, n < 4 ∧ v_9 = nI n ∧ i < 8 ∧ v_10 = nI i) (kpZ R_14 v_10.toNatClampNeg)) ≤ 7301098 ∧ (∀ (x_17 : Int32) (S_16 : MM), ((∃ n i, n < 4 ∧ v_9 = nI n ∧ i < 8 ∧ v_10 = nI i ∧ x_17 = nI (rsmW R_14 n).length ∧ mdW S_7 S_16 F_11 m (kpR R_14 i (rsmW R_14 n)) kz_15 0) ∨ ((np 4 v_9 ∨ np 8 v_10) ∧ x_17 = 0 ∧ mdW S_7 S_16 F_11 m R_14 kz_15 1)) → (0 = 0 ∧ (∃ (v9_18 : Int32), (isO S_16 15 m ∧ mI S_16 1551 m = v9_18) ∧ cs + (nc_i (∃ n i, n < 4 ∧ v_1 = nI n ∧ i < 8 ∧ v_2 = nI i) (anC kz_5 Q_6 v_1 v_2) + 2) + (2 + nc_i (∃ n i, n < 4 ∧ v_9 = nI n ∧ i < 8 ∧ v_10 = nI i) (kpC R_14 v_10.toNatClampNeg)) ≤ 600128 ∧ sl + (nc_i (∃ n i, n < 4 ∧ v_1 = nI n ∧ i < 8 ∧ v_2 = nI i) (anZ kz_5 Q_6 v_1 v_2) + 12) + (12 + nc_i (∃ n i, n < 4 ∧ v_9 = nI n ∧ i < 8 ∧ v_10 = nI i) (kpZ R_14 v_10.toNatClampNeg)) ≤ 7301098 ∧ (((v9_18 = x_8 → ((¬ x_8 = 0 → (∃ k1, k1 < k ∧ I_nx r A k1 [(0, .inr (.inr (some r))), (1, .inr (.inr (some t))), (2, .inr (.inr (some m))), (3, .inr (.inr (some o))), (4, .inl (nI (6 * jn)))] [] S_16 (cs + (nc_i (∃ n i, n < 4 ∧ v_1 = nI n ∧ i < 8 ∧ v_2 = nI i) (anC kz_5 Q_6 v_1 v_2) + 2) + (2 + nc_i (∃ n i, n < 4 ∧ v_9 = nI n ∧ i < 8 ∧ v_10 = nI i) (kpC R_14 v_10.toNatClampNeg))) (sl + (nc_i (∃ n i, n < 4 ∧ v_1 = nI n ∧ i < 8 ∧ v_2 = nI i) (anZ kz_5 Q_6 v_1 v_2) + 12) + (12 + nc_i (∃ n i, n < 4 ∧ v_9 = nI n ∧ i < 8 ∧ v_10 = nI i) (kpZ R_14 v_10.toNatClampNeg))))) ∧ (x_8 = 0 → (isO S_16 18 o ∧ inR S_16 o (0 : Int32) ∧ (((lg_cmp (eJ S_16 o (0 : Int32).toNatClampNeg) x_17.toInt64) = 0 → (∃ k1, k1 < k ∧ I_nx r A k1 [(0, .inr (.inr (some r))), (1, .inr (.inr (some t))), (2, .inr (.inr (some m))), (3, .inr (.inr (some o))), (4, .inl (nI (6 * jn)))] [] S_16 (cs + (nc_i (∃ n i, n < 4 ∧ v_1 = nI n ∧ i < 8 ∧ v_2 = nI i) (anC kz_5 Q_6 v_1 v_2) + 2) + (2 + nc_i (∃ n i, n < 4 ∧ v_9 = nI n ∧ i < 8 ∧ v_10 = nI i) (kpC R_14 v_10.toNatClampNeg))) (sl + (nc_i (∃ n i, n < 4 ∧ v_1 = nI n ∧ i < 8 ∧ v_2 = nI i) (anZ kz_5 Q_6 v_1 v_2) + 12) + (12 + nc_i (∃ n i, n < 4 ∧ v_9 = nI n ∧ i < 8 ∧ v_10 = nI i) (kpZ R_14 v_10.toNatClampNeg))))) ∧ (¬ (lg_cmp (eJ S_16 o (0 : Int32).toNatClampNeg) x_17.toInt64) = 0 → (([] : List MV) = [] ∧ retL (some (.inl (0 : Int32))) S_16 (cs + (nc_i (∃ n i, n < 4 ∧ v_1 = nI n ∧ i < 8 ∧ v_2 = nI i) (anC kz_5 Q_6 v_1 v_2) + 2) + (2 + nc_i (∃ n i, n < 4 ∧ v_9 = nI n ∧ i < 8 ∧ v_10 = nI i) (kpC R_14 v_10.toNatClampNeg))) (sl + (nc_i (∃ n i, n < 4 ∧ v_1 = nI n ∧ i < 8 ∧ v_2 = nI i) (anZ kz_5 Q_6 v_1 v_2) + 12) + (12 + nc_i (∃ n i, n < 4 ∧ v_9 = nI n ∧ i < 8 ∧ v_10 = nI i) (kpZ R_14 v_10.toNatClampNeg)))))))))) ∧ (¬ v9_18 = x_8 → (([] : List MV) = [] ∧ retL (some (.inl (0 : Int32))) S_16 (cs + (nc_i (∃ n i, n < 4 ∧ v_1 = nI n ∧ i < 8 ∧ v_2 = nI i) (anC kz_5 Q_6 v_1 v_2) + 2) + (2 + nc_i (∃ n i, n < 4 ∧ v_9 = nI n ∧ i < 8 ∧ v_10 = nI i) (kpC R_14 v_10.toNatClampNeg))) (sl + (nc_i (∃ n i, n < 4 ∧ v_1 = nI n ∧ i < 8 ∧ v_2 = nI i) (anZ kz_5 Q_6 v_1 v_2) + 12) + (12 + nc_i (∃ n i, n < 4 ∧ v_9 = nI n ∧ i < 8 ∧ v_10 = nI i) (kpZ R_14 v_10.toNatClampNeg)))))))))))))))))))
  obtain ⟨rc, rs⟩ := room_le hL.1 hI hK (show jn ≤ 64 by omega) hcs hsl
  have hB : BdQ Q := hI.1.bd hL.2.1.bd
  obtain ⟨eG, eT, eK, etp, esl, eft, efo, emp, evw, ehu, eap, ean⟩ := id hI.1
  have gok : ∀ p, p < 4 → (Q.G p).ok := fun p hp => (hI.2.2.2.1 p hp).1.1
  have gokR : ∀ p, p < 4 → (R.Q.G p).ok := fun p hp => by rw [eG]; exact gok p hp
  have hb := kzB.of hL.1 hK
  have bn : (np 4 (A.getD (6 * jn + 1) 0) ∨ np 8 (A.getD (6 * jn + 2) 0)) → ¬ (∃ n i, n < 4 ∧ (A.getD (6 * jn + 1) 0) = nI n ∧ i < 8 ∧ (A.getD (6 * jn + 2) 0) = nI i) := fun w ⟨n, i, n1, n2, i1, i2⟩ => w.elim (fun w => np_no w n1 n2) (fun w => np_no w i1 i2)
  have good : ∀ n i, n < 4 → (A.getD (6 * jn + 1) 0) = nI n → i < 8 → (A.getD (6 * jn + 2) 0) = nI i → (nc_i (∃ n i, n < 4 ∧ (A.getD (6 * jn + 1) 0) = nI n ∧ i < 8 ∧ (A.getD (6 * jn + 2) 0) = nI i) (anC kz Q (A.getD (6 * jn + 1) 0) (A.getD (6 * jn + 2) 0)) + 2 + pCc Q kz ≤ pCc Q (upF kz (20 + i) (capN (sumA (Q.G n) n).length (kz (20 + i)) 0)) + 500) ∧ (nc_i (∃ n i, n < 4 ∧ (A.getD (6 * jn + 1) 0) = nI n ∧ i < 8 ∧ (A.getD (6 * jn + 2) 0) = nI i) (anZ kz Q (A.getD (6 * jn + 1) 0) (A.getD (6 * jn + 2) 0)) + 12 + pZc Q kz ≤ pZc Q (upF kz (20 + i) (capN (sumA (Q.G n) n).length (kz (20 + i)) 0)) + 4000) ∧ capN (sumA (Q.G n) n).length (kz (20 + i)) 0 ≤ 32768 := fun n i n1 n2 i1 i2 => by
    have cn : (A.getD (6 * jn + 1) 0).toNatClampNeg = n := by rw [n2]; exact nI_clamp (by omega)
    have ci : (A.getD (6 * jn + 2) 0).toNatClampNeg = i := by rw [i2]; exact nI_clamp (by omega)
    rw [nc_it ⟨n, i, n1, n2, i1, i2⟩, nc_it ⟨n, i, n1, n2, i1, i2⟩]
    unfold anC anZ
    rw [cn, ci]
    have w0 := hL.1.kp.2.1 i i1
    obtain ⟨u1, u2, u3⟩ := pw_le (capN_b (len := 0) w0 (sumA (Q.G n) n).length)
    obtain ⟨u4, u5, u6⟩ := pw_le w0
    have n9 := addNC_9 (n := (sumA (Q.G n) n).length) (len := 0) u4 u2
    have ns := addNS_eq (cap := kz (20 + i)) (len := 0) (sumA (Q.G n) n).length
    obtain ⟨e1, e2⟩ := pc_20 Q kz (v := capN (sumA (Q.G n) n).length (kz (20 + i)) 0) i1 (by omega)
    exact ⟨by omega, by omega, u2⟩
  have bad : ¬ (∃ n i, n < 4 ∧ (A.getD (6 * jn + 1) 0) = nI n ∧ i < 8 ∧ (A.getD (6 * jn + 2) 0) = nI i) → (nc_i (∃ n i, n < 4 ∧ (A.getD (6 * jn + 1) 0) = nI n ∧ i < 8 ∧ (A.getD (6 * jn + 2) 0) = nI i) (anC kz Q (A.getD (6 * jn + 1) 0) (A.getD (6 * jn + 2) 0)) + 2 + pCc Q kz ≤ pCc Q kz + 500) ∧ (nc_i (∃ n i, n < 4 ∧ (A.getD (6 * jn + 1) 0) = nI n ∧ i < 8 ∧ (A.getD (6 * jn + 2) 0) = nI i) (anZ kz Q (A.getD (6 * jn + 1) 0) (A.getD (6 * jn + 2) 0)) + 12 + pZc Q kz ≤ pZc Q kz + 4000) := fun w => by
    rw [nc_in w, nc_in w]; omega
  have rgood : ∀ i B, B ≠ [] → ∀ n, n < 4 → (A.getD (6 * jn + 1) 0) = nI n → i < 8 → (A.getD (6 * jn + 2) 0) = nI i → (2 + nc_i (∃ n i, n < 4 ∧ (A.getD (6 * jn + 1) 0) = nI n ∧ i < 8 ∧ (A.getD (6 * jn + 2) 0) = nI i) (kpC R (A.getD (6 * jn + 2) 0).toNatClampNeg) + pCr R k2 ≤ pCr (kpR R i B) k2 + 500) ∧ (12 + nc_i (∃ n i, n < 4 ∧ (A.getD (6 * jn + 1) 0) = nI n ∧ i < 8 ∧ (A.getD (6 * jn + 2) 0) = nI i) (kpZ R (A.getD (6 * jn + 2) 0).toNatClampNeg) + pZr R k2 ≤ pZr (kpR R i B) k2 + 4000) := fun i B hB n n1 n2 i1 i2 => by
    have ci : (A.getD (6 * jn + 2) 0).toNatClampNeg = i := by rw [i2]; exact nI_clamp (by omega)
    rw [nc_it ⟨n, i, n1, n2, i1, i2⟩, nc_it ⟨n, i, n1, n2, i1, i2⟩, ci]
    have e := fuS_kp R i1 hB
    have e1 : pCr (kpR R i B) k2 = pCr R k2 := rfl
    have e2 : pZr (kpR R i B) k2 + 32768 * fuS R = pZr R k2 + 32768 * fuS (kpR R i B) := by
      unfold pZr
      show smN (fun p => grZ (R.Q.G p)) 4 + _ + _ + _ + _ + 32768 * fuS (kpR R i B) + _ = _
      omega
    rw [e1]
    unfold kpC kpZ
    by_cases c : R.Q.sl i = []
    · rw [if_pos c] at e
      rw [if_pos c, if_pos c]
      exact ⟨by omega, by omega⟩
    · rw [if_neg c] at e
      rw [if_neg c, if_neg c]
      exact ⟨by omega, by omega⟩
  have rbad : ¬ (∃ n i, n < 4 ∧ (A.getD (6 * jn + 1) 0) = nI n ∧ i < 8 ∧ (A.getD (6 * jn + 2) 0) = nI i) → (2 + nc_i (∃ n i, n < 4 ∧ (A.getD (6 * jn + 1) 0) = nI n ∧ i < 8 ∧ (A.getD (6 * jn + 2) 0) = nI i) (kpC R (A.getD (6 * jn + 2) 0).toNatClampNeg) + pCr R k2 ≤ pCr R k2 + 500) ∧ (12 + nc_i (∃ n i, n < 4 ∧ (A.getD (6 * jn + 1) 0) = nI n ∧ i < 8 ∧ (A.getD (6 * jn + 2) 0) = nI i) (kpZ R (A.getD (6 * jn + 2) 0).toNatClampNeg) + pZr R k2 ≤ pZr R k2 + 4000) := fun w => by
    rw [nc_in w, nc_in w]; omega
  have fit : cs + (nc_i (∃ n i, n < 4 ∧ (A.getD (6 * jn + 1) 0) = nI n ∧ i < 8 ∧ (A.getD (6 * jn + 2) 0) = nI i) (anC kz Q (A.getD (6 * jn + 1) 0) (A.getD (6 * jn + 2) 0)) + 2) ≤ 600000 ∧ sl + (nc_i (∃ n i, n < 4 ∧ (A.getD (6 * jn + 1) 0) = nI n ∧ i < 8 ∧ (A.getD (6 * jn + 2) 0) = nI i) (anZ kz Q (A.getD (6 * jn + 1) 0) (A.getD (6 * jn + 2) 0)) + 12) ≤ 7300000 := by
    by_cases w : ∃ n i, n < 4 ∧ (A.getD (6 * jn + 1) 0) = nI n ∧ i < 8 ∧ (A.getD (6 * jn + 2) 0) = nI i
    · obtain ⟨n, i, n1, n2, i1, i2⟩ := w
      obtain ⟨g1, g2, g3⟩ := good n i n1 n2 i1 i2
      exact fit_c hI hK (by omega) hcs hsl gok (hb.v20 i1 g3) g1 g2
    · obtain ⟨g1, g2⟩ := bad w
      exact fit_c hI hK (by omega) hcs hsl gok hb g1 g2
  refine ⟨_, hL.rd (k := 1) (by decide) (by omega) hA, _, hL.rd (k := 2) (by decide) (by omega) hA, rfl, F, X, kz, Q, ⟨hL.1, hL.lwo⟩, by omega, by omega, fun x9 S6 hq => ?_⟩
  have key : ∃ (c : Nat) (v : Int32) (Q1 : Ab) (kz1 : Nat → Nat) (F6 : Nat → Nat × Nat), x9 = nI c ∧ c < 8 ∧ ((c = 0 ∧ ∃ n i, n < 4 ∧ (A.getD (6 * jn + 1) 0) = nI n ∧ i < 8 ∧ (A.getD (6 * jn + 2) 0) = nI i ∧ v = nI (bPuts [] (sumA (Q.G n) n)).length ∧ Q1 = Q.sSl (upF Q.sl i (bPuts [] (sumA (Q.G n) n)))) ∨ (c = 1 ∧ (np 4 (A.getD (6 * jn + 1) 0) ∨ np 8 (A.getD (6 * jn + 2) 0)) ∧ Q1 = Q)) ∧ ((nc_i (∃ n i, n < 4 ∧ (A.getD (6 * jn + 1) 0) = nI n ∧ i < 8 ∧ (A.getD (6 * jn + 2) 0) = nI i) (anC kz Q (A.getD (6 * jn + 1) 0) (A.getD (6 * jn + 2) 0)) + 2 + pCc Q kz ≤ pCc Q1 kz1 + 500) ∧ (nc_i (∃ n i, n < 4 ∧ (A.getD (6 * jn + 1) 0) = nI n ∧ i < 8 ∧ (A.getD (6 * jn + 2) 0) = nI i) (anZ kz Q (A.getD (6 * jn + 1) 0) (A.getD (6 * jn + 2) 0)) + 12 + pZc Q kz ≤ pZc Q1 kz1 + 4000) ∧ LIk kz1 k2) ∧ Lw S6 F6 t m o r A X kz1 Q1 z Y R k2 ∧ (x9 = 0 → eJ S6 o 0 = v.toInt64) := by
    rcases hq with ⟨rfl, v0, S0, ⟨n, i, q0, q1, q2, q3, q4, gW⟩, rfl⟩ | ⟨rfl, rfl, h1⟩
    · obtain ⟨F6, g1, g2⟩ := hL.ok (v := v0.toInt64) gW
      obtain ⟨g3, g4, g5⟩ := good n i q0 q1 q2 q3
      exact ⟨0, v0, _, _, F6, rfl, by decide, Or.inl ⟨rfl, n, i, q0, q1, q2, q3, q4, rfl⟩, ⟨g3, g4, hK.up (by omega)⟩, g1, fun _ => g2⟩
    · obtain ⟨g1, g2⟩ := bad (bn h1)
      exact ⟨1, 0, Q, kz, F, rfl, by decide, Or.inr ⟨rfl, h1, rfl⟩, ⟨g1, g2, hK⟩, hL, fun w => absurd w (by decide)⟩
  obtain ⟨c, v, Q1, kz1, F6, hx, hc8, hc, ⟨p1, p2, hK1⟩, hL6, hv⟩ := key
  have gQ : Q1.G = Q.G := by rcases hc with ⟨-, n, i, -, -, -, -, -, rfl⟩ | ⟨-, -, rfl⟩ <;> rfl
  have gok1 : ∀ p, p < 4 → (Q1.G p).ok := fun p hp => by rw [gQ]; exact gok p hp
  have fr : cs + (nc_i (∃ n i, n < 4 ∧ (A.getD (6 * jn + 1) 0) = nI n ∧ i < 8 ∧ (A.getD (6 * jn + 2) 0) = nI i) (anC kz Q (A.getD (6 * jn + 1) 0) (A.getD (6 * jn + 2) 0)) + 2) + (2 + nc_i (∃ n i, n < 4 ∧ (A.getD (6 * jn + 1) 0) = nI n ∧ i < 8 ∧ (A.getD (6 * jn + 2) 0) = nI i) (kpC R (A.getD (6 * jn + 2) 0).toNatClampNeg)) ≤ 600000 ∧ sl + (nc_i (∃ n i, n < 4 ∧ (A.getD (6 * jn + 1) 0) = nI n ∧ i < 8 ∧ (A.getD (6 * jn + 2) 0) = nI i) (anZ kz Q (A.getD (6 * jn + 1) 0) (A.getD (6 * jn + 2) 0)) + 12) + (12 + nc_i (∃ n i, n < 4 ∧ (A.getD (6 * jn + 1) 0) = nI n ∧ i < 8 ∧ (A.getD (6 * jn + 2) 0) = nI i) (kpZ R (A.getD (6 * jn + 2) 0).toNatClampNeg)) ≤ 7300000 := by
    by_cases w : ∃ n i, n < 4 ∧ (A.getD (6 * jn + 1) 0) = nI n ∧ i < 8 ∧ (A.getD (6 * jn + 2) 0) = nI i
    · obtain ⟨n, i, n1, n2, i1, i2⟩ := w
      obtain ⟨g1, g2⟩ := rgood i [0] (fun q => by cases q) n n1 n2 i1 i2
      exact fit_r (by omega) hcs hsl p1 p2 gok1 (kzB.of hL6.1 hK1) (R1 := kpR R i [0]) gokR hK.2.2.2.2.1 hK.2.2.2.2.2.2.1 hK.2.2.2.2.2.2.2.1 hK.2.2.2.2.2.2.2.2.1.1 g1 g2
    · obtain ⟨g1, g2⟩ := rbad w
      exact fit_r (by omega) hcs hsl p1 p2 gok1 (kzB.of hL6.1 hK1) (R1 := R) gokR hK.2.2.2.2.1 hK.2.2.2.2.2.2.1 hK.2.2.2.2.2.2.2.1 hK.2.2.2.2.2.2.2.2.1.1 g1 g2
  refine ⟨_, hL6.rd (k := 1) (by decide) (by omega) hA, _, hL6.rd (k := 2) (by decide) (by omega) hA, rfl, F6, z, Y, R, k2, hL6.2.1, by omega, by omega, fun v9 S9 hr => ?_⟩
  have key2 : ∃ (th : Nat) (R1 : Rb), ((th = 0 ∧ ∃ n i, n < 4 ∧ (A.getD (6 * jn + 1) 0) = nI n ∧ i < 8 ∧ (A.getD (6 * jn + 2) 0) = nI i ∧ v9 = nI (rsmW R n).length ∧ R1 = kpR R i (rsmW R n)) ∨ (th = 1 ∧ (np 4 (A.getD (6 * jn + 1) 0) ∨ np 8 (A.getD (6 * jn + 2) 0)) ∧ v9 = 0 ∧ R1 = R)) ∧ ((2 + nc_i (∃ n i, n < 4 ∧ (A.getD (6 * jn + 1) 0) = nI n ∧ i < 8 ∧ (A.getD (6 * jn + 2) 0) = nI i) (kpC R (A.getD (6 * jn + 2) 0).toNatClampNeg) + pCr R k2 ≤ pCr R1 k2 + 500) ∧ (12 + nc_i (∃ n i, n < 4 ∧ (A.getD (6 * jn + 1) 0) = nI n ∧ i < 8 ∧ (A.getD (6 * jn + 2) 0) = nI i) (kpZ R (A.getD (6 * jn + 2) 0).toNatClampNeg) + pZr R k2 ≤ pZr R1 k2 + 4000)) ∧ mdW S6 S9 F6 m R1 k2 th := by
    rcases hr with ⟨n, i, q0, q1, q2, q3, q4, gW⟩ | ⟨h1, q1, gW⟩
    · exact ⟨0, _, Or.inl ⟨rfl, n, i, q0, q1, q2, q3, q4, rfl⟩, rgood i _ (rsmW_ok R n).1 n q0 q1 q2 q3, gW⟩
    · exact ⟨1, _, Or.inr ⟨rfl, h1, q1, rfl⟩, rbad (bn h1), gW⟩
  obtain ⟨th, R1, hr, ⟨r1, r2⟩, hw⟩ := key2
  obtain ⟨F9, z9, Y9, hL9, hth, -, hj9⟩ := hL6.ref hw
  obtain ⟨a1, a2, a3⟩ := ag_ac hB hI.1 hc hr
  have hI1 : LIv Q1 R1 := by
    rcases hc with ⟨c0, n, i, n1, n2, i1, i2, -, rfl⟩ | ⟨c0, -, rfl⟩ <;> rcases hr with ⟨h0, n', i', n1', n2', i1', i2', -, rfl⟩ | ⟨h0, -, -, rfl⟩
    · have e1 := nI_ij n2 n2' (by omega) (by omega)
      have e2 := nI_ij i2 i2' (by omega) (by omega)
      subst e1 e2
      have e3 : bPuts [] (sumA (Q.G n) n) = rsmW R n := by
        unfold rsmW
        rw [eG]
        exact sum_eq (gok n n1) n1
      rw [e3]
      exact hI.ann n i
    · rw [h0, c0] at a1; cases a1
    · rw [h0, c0] at a1; cases a1
    · exact hI
  refine lw_cmp hL9 (by rw [hth, a1, ← hx]) (fun w => ?_) (by omega) (by omega) (nx_k hk hj hA hL9 hI1 hK1 hcs hsl p1 p2 r1 r2 (by omega) (by omega))
  rw [hj9, hv w, a2 (nI_z hc8 (hx.symm.trans w))]
