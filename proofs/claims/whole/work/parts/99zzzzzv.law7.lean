/-! ===== The law: differ ===== -/
theorem hrun_4 : ∀ (P : List (Nat × Nat)) (x : HS), x.1 % 4 = 0 → (hrun P x).1 % 4 = 0 := by
  have hc : ∀ x : HS, x.1 % 4 = 0 → (hcl x).1 % 4 = 0 := fun x h => by
    show (if x.2.2.2.2.1 + x.2.2.2.2.2 = 0 then x.1 else hcN x.1 x.2.1.length) % 4 = 0
    unfold hcN
    split
    · exact h
    · split <;> omega
  intro P
  induction P with
  | nil => intro x h; exact hc x h
  | cons p P ih =>
    intro x h
    refine ih (hst x p) ?_
    rw [hst_1]
    split
    · exact hc x h
    · exact h
theorem kzB.v12 {kz : Nat → Nat} (h : kzB kz) {v : Nat} (hv : v ≤ 32768) : kzB (upF kz 12 v) := by
  obtain ⟨h0, h1, h2, h3, h4, h5, h6, h7⟩ := h
  exact ⟨by rw [upF_o (by decide)]; exact h0, by rw [upF_o (by decide)]; exact h1, fun k hk => by rw [upF_o (by omega)]; exact h2 k hk, fun k hk => by rw [upF_o (by omega)]; exact h3 k hk, by rw [upF_o (by decide)]; exact h4, by rw [upF_s]; exact hv, fun k hk => by rw [upF_o (by omega)]; exact h6 k hk, by rw [upF_o (by decide)]; exact h7⟩
theorem LIk.r9 {kz k2 : Nat → Nat} (h : LIk kz k2) {v : Nat} (h1 : 64 ≤ v) (h2 : v ≤ 32768) (h3 : v % 4 = 0) : LIk kz (upF k2 9 v) := by
  obtain ⟨a1, a2, a3, a4, a5, a6, a7, a8, a9, a10⟩ := h
  refine ⟨a1, a2, a3, ?_, ?_, ?_, ?_, ?_, ⟨?_, ?_⟩, ?_⟩
  · rw [upF_o (by decide)]; exact a4
  · rw [upF_o (by decide)]; exact a5
  · rw [upF_o (by decide)]; exact a6
  · rw [upF_o (by decide)]; exact a7
  · rw [upF_o (by decide)]; exact a8
  · rw [upF_s]; exact h2
  · rw [upF_s]; exact h3
  · rw [upF_s]; exact h1
theorem pr_9 (R : Rb) (k2 : Nat → Nat) (v : Nat) : pCr R (upF k2 9 v) + k2 9 = pCr R k2 + v ∧ pZr R (upF k2 9 v) + 2 * k2 9 = pZr R k2 + 2 * v := by
  unfold pCr pZr
  rw [upF_s, upF_o (show 40 ≠ 9 by decide), upF_o (show 47 ≠ 9 by decide), upF_o (show 24 ≠ 9 by decide)]
  omega
theorem rf_df {Q : Ab} {R : Rb} (hG : ∀ n, n < 4 → GT (Q.G n) (Q.T n)) (hR : Rel Q R) (hM : RelM Q R) {i j n : Nat} (hn : n < 4) (hi : Q.mp i = some n) (hj : Q.mp j = some n) : rfP R i j = dfP Q i j := by
  unfold rfP dfP
  rw [hR.1, hR.2.1, hR.2.2.2.2.2.2.2.1, hi]
  show (Q.T n).od.map (rfN (Q.G n) (R.M i) (R.M j)) = hpG (Q.G n) (Q.ms i) (Q.ms j) (Q.T n).od
  rw [hM i n hi, hM j n hj]
  exact df_eq (hG n hn) _ _
theorem df_ok {Q : Ab} (hG : ∀ n, n < 4 → GT (Q.G n) (Q.T n)) {i j n N : Nat} (hn : n < 4) (hi : Q.mp i = some n) (h1 : 64 ≤ N) (hN : N ≤ 32768) : hrC (dfP Q i j) (N, [], 0, 0, 0, 0) + N ≤ (hrun (dfP Q i j) (N, [], 0, 0, 0, 0)).1 ∧ hrZ (dfP Q i j) (N, [], 0, 0, 0, 0) + 2 * N = 2 * (hrun (dfP Q i j) (N, [], 0, 0, 0, 0)).1 ∧ (hrun (dfP Q i j) (N, [], 0, 0, 0, 0)).1 ≤ 32768 := by
  refine ⟨hrC_le _ (N, [], 0, 0, 0, 0) (show 1 ≤ N by omega), hrZ_eq _ (N, [], 0, 0, 0, 0), (hrun_ok (P := dfP Q i j) (x := (N, [], 0, 0, 0, 0)) (n := 0) ⟨hN, Nat.le_refl 0, Nat.le_refl 0, Nat.le_refl 0⟩ ?_ (fun q hq => ?_)).1⟩
  · unfold dfP
    rw [hi]
    show 0 + (hpG (Q.G n) (Q.ms i) (Q.ms j) (Q.T n).od).length ≤ 8192
    unfold hpG
    rw [List.length_map]
    have := (hG n hn).od_n
    have := (hG n hn).1.hn
    omega
  · unfold dfP at hq
    rw [hi] at hq
    obtain ⟨x, -, rfl⟩ := List.mem_map.1 hq
    exact ⟨stM_01, stM_01⟩
theorem ag_df {Q Q1 : Ab} {R R1 : Rb} {b w v v' : Int32} {c th : Nat} {kz k2 k21 : Nat → Nat} (hG : ∀ n, n < 4 → GT (Q.G n) (Q.T n)) (hR : Rel Q R) (hM : RelM Q R) (hp4 : ∀ i p, Q.mp i = some p → p < 4) (hc : ((c = 0 ∧ ∃ i j p, i < 8 ∧ b = nI i ∧ j < 8 ∧ w = nI j ∧ Q.mp i = some p ∧ Q.mp j = some p ∧ v = nI (dfX kz Q i j).2.1.length ∧ Q1 = Q.sHu (dfX kz Q i j).2.1) ∨ (c = 1 ∧ (np 8 b ∨ np 8 w) ∧ Q1 = Q) ∨ (c = 2 ∧ (∃ i j, i < 8 ∧ b = nI i ∧ j < 8 ∧ w = nI j ∧ (Q.mp i = none ∨ Q.mp j = none)) ∧ Q1 = Q) ∨ (c = 3 ∧ (∃ i j p q, i < 8 ∧ b = nI i ∧ j < 8 ∧ w = nI j ∧ Q.mp i = some p ∧ Q.mp j = some q ∧ p ≠ q) ∧ Q1 = Q))) (hr : ((th = 0 ∧ k21 = upF k2 9 (dfR R k2 b.toNatClampNeg w.toNatClampNeg).1 ∧ ∃ i j n, dfW R b w i j n ∧ v' = nI (dfR R k2 i j).2.1.length ∧ R1 = R.sQ (R.Q.sHu (dfR R k2 i j).2.1)) ∨ (th = 1 ∧ k21 = k2 ∧ (np 8 b ∨ np 8 w) ∧ v' = 0 ∧ R1 = R) ∨ (th = 2 ∧ k21 = k2 ∧ (∃ i j, i < 8 ∧ b = nI i ∧ j < 8 ∧ w = nI j ∧ (R.Q.mp i = none ∨ R.Q.mp j = none)) ∧ v' = 0 ∧ R1 = R) ∨ (th = 3 ∧ k21 = k2 ∧ (∃ i j p q, i < 8 ∧ b = nI i ∧ j < 8 ∧ w = nI j ∧ R.Q.mp i = some p ∧ R.Q.mp j = some q ∧ p ≠ q) ∧ v' = 0 ∧ R1 = R))) : th = c ∧ (c = 0 → v' = v) ∧ Rel Q1 R1 := by
  have em := hR.2.2.2.2.2.2.2.1
  rcases hc with ⟨h0, ih, jh, nh, h1, h2, h3, h4, h5, h6, h7, rfl⟩ | ⟨h0, h1, rfl⟩ | ⟨h0, ⟨ih, jh, h1, h2, h3, h4, h5⟩, rfl⟩ | ⟨h0, ⟨ih, jh, mh, nh, h1, h2, h3, h4, h5, h6, h7⟩, rfl⟩ <;> rcases hr with ⟨g0, -, ig, jg, ng, ⟨g1, g2, g3, g4, g5, g6⟩, g7, rfl⟩ | ⟨g0, -, g1, g8, rfl⟩ | ⟨g0, -, ⟨ig, jg, g1, g2, g3, g4, g5⟩, g8, rfl⟩ | ⟨g0, -, ⟨ig, jg, mg, ng, g1, g2, g3, g4, g5, g6, g7⟩, g8, rfl⟩
  · rw [em] at g5 g6
    have e1 := nI_ij h2 g2 (by omega) (by omega)
    have e2 := nI_ij h4 g4 (by omega) (by omega)
    subst e1 e2
    have e3 := df_res hG hR hM (hp4 _ _ h5) h5 h6 kz k2
    rw [e3] at g7 ⊢
    exact ⟨by omega, fun _ => g7.trans h7.symm, hR.hu _⟩
  · exact (g1.elim (fun q => np_no q h1 h2) (fun q => np_no q h3 h4)).elim
  · rw [em] at g5
    have e1 := nI_ij h2 g2 (by omega) (by omega)
    have e2 := nI_ij h4 g4 (by omega) (by omega)
    subst e1 e2
    rcases g5 with q | q
    · rw [h5] at q; cases q
    · rw [h6] at q; cases q
  · rw [em] at g5 g6
    have e1 := nI_ij h2 g2 (by omega) (by omega)
    have e2 := nI_ij h4 g4 (by omega) (by omega)
    subst e1 e2
    rw [h5] at g5; rw [h6] at g6; cases g5; cases g6; exact absurd rfl g7
  · exact (h1.elim (fun q => np_no q g1 g2) (fun q => np_no q g3 g4)).elim
  · exact ⟨by omega, fun q => by omega, hR⟩
  · exact (h1.elim (fun q => np_no q g1 g2) (fun q => np_no q g3 g4)).elim
  · exact (h1.elim (fun q => np_no q g1 g2) (fun q => np_no q g3 g4)).elim
  · rw [em] at g5 g6
    have e1 := nI_ij h2 g2 (by omega) (by omega)
    have e2 := nI_ij h4 g4 (by omega) (by omega)
    subst e1 e2
    rcases h5 with q | q
    · rw [g5] at q; cases q
    · rw [g6] at q; cases q
  · exact (g1.elim (fun q => np_no q h1 h2) (fun q => np_no q h3 h4)).elim
  · exact ⟨by omega, fun q => by omega, hR⟩
  · rw [em] at g5 g6
    have e1 := nI_ij h2 g2 (by omega) (by omega)
    have e2 := nI_ij h4 g4 (by omega) (by omega)
    subst e1 e2
    rcases h5 with q | q
    · rw [g5] at q; cases q
    · rw [g6] at q; cases q
  · rw [em] at g5 g6
    have e1 := nI_ij h2 g2 (by omega) (by omega)
    have e2 := nI_ij h4 g4 (by omega) (by omega)
    subst e1 e2
    rw [h5] at g5; rw [h6] at g6; cases g5; cases g6; exact absurd rfl h7
  · exact (g1.elim (fun q => np_no q h1 h2) (fun q => np_no q h3 h4)).elim
  · rw [em] at g5
    have e1 := nI_ij h2 g2 (by omega) (by omega)
    have e2 := nI_ij h4 g4 (by omega) (by omega)
    subst e1 e2
    rcases g5 with q | q
    · rw [h5] at q; cases q
    · rw [h6] at q; cases q
  · exact ⟨by omega, fun q => by omega, hR⟩

set_option maxRecDepth 100000 in
set_option maxHeartbeats 2000000 in
theorem lwc_df {r k : Nat} {A : List Int32} {lo : List (Nat × MV)} {st : List MV} {S1 : MM} {cs sl : Nat} (h : I_lc r A k lo st S1 cs sl) : GoL k r A 1322 lo st S1 cs sl := by
  obtain ⟨jn, t, m, o, F, X, kz, Q, z, Y, R, k2, hk, hj, hA, ⟨hL, hI, hK, hcs, hsl⟩, rfl, rfl⟩ := h
  refine ⟨300, ?_⟩
  show (∃ v_1 : Int32, (r = r ∧ vp_in ((nI (6 * jn)) + (1 : Int32)) A.length ∧ v_1 = A.getD ((nI (6 * jn)) + (1 : Int32)).toNatClampNeg 0) ∧ (∃ v_2 : Int32, (r = r ∧ vp_in ((nI (6 * jn)) + (2 : Int32)) A.length ∧ v_2 = A.getD ((nI (6 * jn)) + (2 : Int32)).toNatClampNeg 0) ∧ (2 = 2 ∧ (∃ (F_3 : Nat → Nat × Nat) (X_4 : Nat → GX) (kz_5 : Nat → Nat) (Q_6 : Ab), ((WT S1 F_3 t X_4 kz_5 Q_6 ∧ AbM Q_6) ∧ lwO S1 F_3 o) ∧ cs + (nc_i (∃ i j n, i < 8 ∧ v_1 = nI i ∧ j < 8 ∧ v_2 = nI j ∧ Q_6.mp i = some n ∧ Q_6.mp j = some n) (hrC (dfP Q_6 v_1.toNatClampNeg v_2.toNatClampNeg) (kz_5 12, [], 0, 0, 0, 0)) + 3) ≤ 600128 ∧ sl + (nc_i (∃ i j n, i < 8 ∧ v_1 = nI i ∧ j < 8 ∧ v_2 = nI j ∧ Q_6.mp i = some n ∧ Q_6.mp j = some n) (hrZ (dfP Q_6 v_1.toNatClampNeg v_2.toNatClampNeg) (kz_5 12, [], 0, 0, 0, 0)) + 18) ≤ 7301098 ∧ (∀ (x_8 : Int32) (S_7 : MM), ((x_8 = 0 ∧ ∃ (v0 : Int32) (S0 : MM), (∃ i j p, i < 8 ∧ v_1 = nI i ∧ j < 8 ∧ v_2 = nI j ∧ Q_6.mp i = some p ∧ Q_6.mp j = some p ∧ v0 = nI (dfX kz_5 Q_6 i j).2.1.length ∧ wtQ S1 S0 F_3 t X_4 (upF kz_5 12 (dfX kz_5 Q_6 i j).1) (Q_6.sHu (dfX kz_5 Q_6 i j).2.1)) ∧ S_7 = loJ S0 o v0.toInt64) ∨ (x_8 = 1 ∧ S_7 = S1 ∧ (np 8 v_1 ∨ np 8 v_2)) ∨ (x_8 = 2 ∧ S_7 = S1 ∧ (∃ i j, i < 8 ∧ v_1 = nI i ∧ j < 8 ∧ v_2 = nI j ∧ (Q_6.mp i = none ∨ Q_6.mp j = none))) ∨ (x_8 = 3 ∧ S_7 = S1 ∧ (∃ i j p q, i < 8 ∧ v_1 = nI i ∧ j < 8 ∧ v_2 = nI j ∧ Q_6.mp i = some p ∧ Q_6.mp j = some q ∧ p ≠ q))) → (∃ v_9 : Int32, (r = r ∧ vp_in ((nI (6 * jn)) + (1 : Int32)) A.length ∧ v_9 = A.getD ((nI (6 * jn)) + (1 : Int32)).toNatClampNeg 0) ∧ (∃ v_10 : Int32, (r = r ∧ vp_in ((nI (6 * jn)) + (2 : Int32)) A.length ∧ v_10 = A.getD ((nI (6 * jn)) + (2 : Int32)).toNatClampNeg 0) ∧ (0 = 0 ∧ (∃ (F_11 : Nat → Nat × Nat) (z_12 : Nat → Nat) (Y_13 : Nat → Nat → Nat) (R_14 : Rb) (kz_15 : Nat → Nat), (MD S_7 F_11 m z_12 Y_13 R_14 kz_15 ∧ hkD kz_15) ∧ cs + (nc_i (∃ i j n, i < 8 ∧ v_1 = nI i ∧ j < 8 ∧ v_2 = nI j ∧ Q_6.mp i = some n ∧ Q_6.mp j = some n) (hrC (dfP Q_6 v_1.toNatClampNeg v_2.toNatClampNeg) (kz_5 12, [], 0, 0, 0, 0)) + 3) + (3 + nc_i (∃ i j n, dfW R_14 v_9 v_10 i j n) (dfC R_14 kz_15 v_9 v_10)) ≤ 600128 ∧ sl + (nc_i (∃ i j n, i < 8 ∧ v_1 = nI i ∧ j < 8 ∧ v_2 = nI j ∧ Q_6.mp i = some n ∧ Q_6.mp j = some n) (hrZ (dfP Q_6 v_1.toNatClampNeg v_2.toNatClampNeg) (kz_5 12, [], 0, 0, 0, 0)) + 18) + (18 + nc_i (∃ i j n, dfW R_14 v_9 v_10 i j n) (dfZ R_14 kz_15 v_9 v_10)) ≤ 7301098 ∧ (∀ (x_17 : Int32) (S_16 : MM), (dfV S_7 S_16 F_11 m R_14 kz_15 v_9 v_10 x_17 ∨ ((np 8 v_9 ∨ np 8 v_10) ∧ x_17 = 0 ∧ mdW S_7 S_16 F_11 m R_14 kz_15 1) ∨ ((∃ i j, i < 8 ∧ v_9 = nI i ∧ j < 8 ∧ v_10 = nI j ∧ (R_14.Q.mp i = none ∨ R_14.Q.mp j = none)) ∧ x_17 = 0 ∧ mdW S_7 S_16 F_11 m R_14 kz_15 2) ∨ ((∃ i j p q, i < 8 ∧ v_9 = nI i ∧ j < 8 ∧ v_10 = nI j ∧ R_14.Q.mp i = some p ∧ R_14.Q.mp j = some q ∧ p ≠ q) ∧ x_17 = 0 ∧ mdW S_7 S_16 F_11 m R_14 kz_15 3)) → (0 = 0 ∧ (∃ (v9_18 : Int32), (isO S_16 15 m ∧ mI S_16 1551 m = v9_18) ∧ cs + (nc_i (∃ i j n, i < 8 ∧ v_1 = nI i ∧ j < 8 ∧ v_2 = nI j ∧ Q_6.mp i = some n ∧ Q_6.mp j = some n) (hrC (dfP Q_6 v_1.toNatClampNeg v_2.toNatClampNeg) (kz_5 12, [], 0, 0, 0, 0)) + 3) + (3 + nc_i (∃ i j n, dfW R_14 v_9 v_10 i j n) (dfC R_14 kz_15 v_9 v_10)) ≤ 600128 ∧ sl + (nc_i (∃ i j n, i < 8 ∧ v_1 = nI i ∧ j < 8 ∧ v_2 = nI j ∧ Q_6.mp i = some n ∧ Q_6.mp j = some n) (hrZ (dfP Q_6 v_1.toNatClampNeg v_2.toNatClampNeg) (kz_5 12, [], 0, 0, 0, 0)) + 18) + (18 + nc_i (∃ i j n, dfW R_14 v_9 v_10 i j n) (dfZ R_14 kz_15 v_9 v_10)) ≤ 7301098 ∧ (((v9_18 = x_8 → ((¬ x_8 = 0 → (∃ k1, k1 < k ∧ I_nx r A k1 [(0, .inr (.inr (some r))), (1, .inr (.inr (some t))), (2, .inr (.inr (some m))), (3, .inr (.inr (some o))), (4, .inl (nI (6 * jn)))] [] S_16 (cs + (nc_i (∃ i j n, i < 8 ∧ v_1 = nI i ∧ j < 8 ∧ v_2 = nI j ∧ Q_6.mp i = some n ∧ Q_6.mp j = some n) (hrC (dfP Q_6 v_1.toNatClampNeg v_2.toNatClampNeg) (kz_5 12, [], 0, 0, 0, 0)) + 3) + (3 + nc_i (∃ i j n, dfW R_14 v_9 v_10 i j n) (dfC R_14 kz_15 v_9 v_10))) (sl + (nc_i (∃ i j n, i < 8 ∧ v_1 = nI i ∧ j < 8 ∧ v_2 = nI j ∧ Q_6.mp i = some n ∧ Q_6.mp j = some n) (hrZ (dfP Q_6 v_1.toNatClampNeg v_2.toNatClampNeg) (kz_5 12, [], 0, 0, 0, 0)) + 18) + (18 + nc_i (∃ i j n, dfW R_14 v_9 v_10 i j n) (dfZ R_14 kz_15 v_9 v_10))))) ∧ (x_8 = 0 → (isO S_16 18 o ∧ inR S_16 o (0 : Int32) ∧ (((lg_cmp (eJ S_16 o (0 : Int32).toNatClampNeg) x_17.toInt64) = 0 → (∃ k1, k1 < k ∧ I_nx r A k1 [(0, .inr (.inr (some r))), (1, .inr (.inr (some t))), (2, .inr (.inr (some m))), (3, .inr (.inr (some o))), (4, .inl (nI (6 * jn)))] [] S_16 (cs + (nc_i (∃ i j n, i < 8 ∧ v_1 = nI i ∧ j < 8 ∧ v_2 = nI j ∧ Q_6.mp i = some n ∧ Q_6.mp j = some n) (hrC (dfP Q_6 v_1.toNatClampNeg v_2.toNatClampNeg) (kz_5 12, [], 0, 0, 0, 0)) + 3) + (3 + nc_i (∃ i j n, dfW R_14 v_9 v_10 i j n) (dfC R_14 kz_15 v_9 v_10))) (sl + (nc_i (∃ i j n, i < 8 ∧ v_1 = nI i ∧ j < 8 ∧ v_2 = nI j ∧ Q_6.mp i = some n ∧ Q_6.mp j = some n) (hrZ (dfP Q_6 v_1.toNatClampNeg v_2.toNatClampNeg) (kz_5 12, [], 0, 0, 0, 0)) + 18) + (18 + nc_i (∃ i j n, dfW R_14 v_9 v_10 i j n) (dfZ R_14 kz_15 v_9 v_10))))) ∧ (¬ (lg_cmp (eJ S_16 o (0 : Int32).toNatClampNeg) x_17.toInt64) = 0 → (([] : List MV) = [] ∧ retL (some (.inl (0 : Int32))) S_16 (cs + (nc_i (∃ i j n, i < 8 ∧ v_1 = nI i ∧ j < 8 ∧ v_2 = nI j ∧ Q_6.mp i = some n ∧ Q_6.mp j = some n) (hrC (dfP Q_6 v_1.toNatClampNeg v_2.toNatClampNeg) (kz_5 12, [], 0, 0, 0, 0)) + 3) + (3 + nc_i (∃ i j n, dfW R_14 v_9 v_10 i j n) (dfC R_14 kz_15 v_9 v_10))) (sl + (nc_i (∃ i j n, i < 8 ∧ v_1 = nI i ∧ j < 8 ∧ v_2 = nI j ∧ Q_6.mp i = some n ∧ Q_6.mp j = some n) (hrZ (dfP Q_6 v_1.toNatClampNeg v_2.toNatClampNeg) (kz_5 12, [], 0, 0, 0, 0)) + 18) + (18 + nc_i (∃ i j n, dfW R_14 v_9 v_10 i j n) (dfZ R_14 kz_15 v_9 v_10)))))))))) ∧ (¬ v9_18 = x_8 → (([] : List MV) = [] ∧ retL (some (.inl (0 : Int32))) S_16 (cs + (nc_i (∃ i j n, i < 8 ∧ v_1 = nI i ∧ j < 8 ∧ v_2 = nI j ∧ Q_6.mp i = some n ∧ Q_6.mp j = some n) (hrC (dfP Q_6 v_1.toNatClampNeg v_2.toNatClampNeg) (kz_5 12, [], 0, 0, 0, 0)) + 3) + (3 + nc_i (∃ i j n, dfW R_14 v_9 v_10 i j n) (dfC R_14 kz_15 v_9 v_10))) (sl + (nc_i (∃ i j n, i < 8 ∧ v_1 = nI i ∧ j < 8 ∧ v_2 = nI j ∧ Q_6.mp i = some n ∧ Q_6.mp j = some n) (hrZ (dfP Q_6 v_1.toNatClampNeg v_2.toNatClampNeg) (kz_5 12, [], 0, 0, 0, 0)) + 18) + (18 + nc_i (∃ i j n, dfW R_14 v_9 v_10 i j n) (dfZ R_14 kz_15 v_9 v_10)))))))))))))))))))
  obtain ⟨rc, rs⟩ := room_le hL.1 hI hK (show jn ≤ 64 by omega) hcs hsl
  have hB : BdQ Q := hI.1.bd hL.2.1.bd
  obtain ⟨eG, eT, eK, etp, esl, eft, efo, emp, evw, ehu, eap, ean⟩ := id hI.1
  have gGT : ∀ p, p < 4 → GT (Q.G p) (Q.T p) := fun p hp => (hI.2.2.2.1 p hp).1
  have hp4 : ∀ i p, Q.mp i = some p → p < 4 := fun i p hp => (hI.2.2.1 i p hp).1
  have gok : ∀ p, p < 4 → (Q.G p).ok := fun p hp => (gGT p hp).1
  have gokR : ∀ p, p < 4 → (R.Q.G p).ok := fun p hp => by rw [eG]; exact gok p hp
  have hb := kzB.of hL.1 hK
  obtain ⟨b12, -⟩ := hL.1.kb.2.2.2.2.2
  have good : ∀ i j n, i < 8 → (A.getD (6 * jn + 1) 0) = nI i → j < 8 → (A.getD (6 * jn + 2) 0) = nI j → Q.mp i = some n → Q.mp j = some n → (nc_i (∃ i j n, i < 8 ∧ (A.getD (6 * jn + 1) 0) = nI i ∧ j < 8 ∧ (A.getD (6 * jn + 2) 0) = nI j ∧ Q.mp i = some n ∧ Q.mp j = some n) (hrC (dfP Q (A.getD (6 * jn + 1) 0).toNatClampNeg (A.getD (6 * jn + 2) 0).toNatClampNeg) (kz 12, [], 0, 0, 0, 0)) + 3 + pCc Q kz ≤ pCc Q (upF kz 12 (dfX kz Q i j).1) + 500) ∧ (nc_i (∃ i j n, i < 8 ∧ (A.getD (6 * jn + 1) 0) = nI i ∧ j < 8 ∧ (A.getD (6 * jn + 2) 0) = nI j ∧ Q.mp i = some n ∧ Q.mp j = some n) (hrZ (dfP Q (A.getD (6 * jn + 1) 0).toNatClampNeg (A.getD (6 * jn + 2) 0).toNatClampNeg) (kz 12, [], 0, 0, 0, 0)) + 18 + pZc Q kz ≤ pZc Q (upF kz 12 (dfX kz Q i j).1) + 4000) ∧ (dfX kz Q i j).1 ≤ 32768 := fun i j n i1 i2 j1 j2 m1 m2 => by
    have cb : (A.getD (6 * jn + 1) 0).toNatClampNeg = i := by rw [i2]; exact nI_clamp (by omega)
    have cw : (A.getD (6 * jn + 2) 0).toNatClampNeg = j := by rw [j2]; exact nI_clamp (by omega)
    rw [nc_it ⟨i, j, n, i1, i2, j1, j2, m1, m2⟩, nc_it ⟨i, j, n, i1, i2, j1, j2, m1, m2⟩, cb, cw]
    obtain ⟨l1, l2, l3⟩ := df_ok (j := j) gGT (hp4 i n m1) m1 b12.1 b12.2
    have e0 : hrun (dfP Q i j) (kz 12, [], 0, 0, 0, 0) = dfX kz Q i j := rfl
    rw [e0] at l1 l2 l3
    obtain ⟨l4, l5⟩ := pc_12 Q kz (dfX kz Q i j).1
    exact ⟨by omega, by omega, l3⟩
  have bad : ¬ (∃ i j n, i < 8 ∧ (A.getD (6 * jn + 1) 0) = nI i ∧ j < 8 ∧ (A.getD (6 * jn + 2) 0) = nI j ∧ Q.mp i = some n ∧ Q.mp j = some n) → (nc_i (∃ i j n, i < 8 ∧ (A.getD (6 * jn + 1) 0) = nI i ∧ j < 8 ∧ (A.getD (6 * jn + 2) 0) = nI j ∧ Q.mp i = some n ∧ Q.mp j = some n) (hrC (dfP Q (A.getD (6 * jn + 1) 0).toNatClampNeg (A.getD (6 * jn + 2) 0).toNatClampNeg) (kz 12, [], 0, 0, 0, 0)) + 3 + pCc Q kz ≤ pCc Q kz + 500) ∧ (nc_i (∃ i j n, i < 8 ∧ (A.getD (6 * jn + 1) 0) = nI i ∧ j < 8 ∧ (A.getD (6 * jn + 2) 0) = nI j ∧ Q.mp i = some n ∧ Q.mp j = some n) (hrZ (dfP Q (A.getD (6 * jn + 1) 0).toNatClampNeg (A.getD (6 * jn + 2) 0).toNatClampNeg) (kz 12, [], 0, 0, 0, 0)) + 18 + pZc Q kz ≤ pZc Q kz + 4000) := fun w => by
    rw [nc_in w, nc_in w]; omega
  have rgood : ∀ i j n, dfW R (A.getD (6 * jn + 1) 0) (A.getD (6 * jn + 2) 0) i j n → (3 + nc_i (∃ i j n, dfW R (A.getD (6 * jn + 1) 0) (A.getD (6 * jn + 2) 0) i j n) (dfC R k2 (A.getD (6 * jn + 1) 0) (A.getD (6 * jn + 2) 0)) + pCr R k2 ≤ pCr R (upF k2 9 (dfR R k2 i j).1) + 500) ∧ (18 + nc_i (∃ i j n, dfW R (A.getD (6 * jn + 1) 0) (A.getD (6 * jn + 2) 0) i j n) (dfZ R k2 (A.getD (6 * jn + 1) 0) (A.getD (6 * jn + 2) 0)) + pZr R k2 ≤ pZr R (upF k2 9 (dfR R k2 i j).1) + 4000) ∧ (64 ≤ (dfR R k2 i j).1 ∧ (dfR R k2 i j).1 ≤ 32768 ∧ (dfR R k2 i j).1 % 4 = 0) := fun i j n hd => by
    obtain ⟨i1, i2, j1, j2, m1, m2⟩ := id hd
    rw [emp] at m1 m2
    have cb : (A.getD (6 * jn + 1) 0).toNatClampNeg = i := by rw [i2]; exact nI_clamp (by omega)
    have cw : (A.getD (6 * jn + 2) 0).toNatClampNeg = j := by rw [j2]; exact nI_clamp (by omega)
    rw [nc_it ⟨i, j, n, hd⟩, nc_it ⟨i, j, n, hd⟩]
    have e9 := rf_df gGT hI.1 hI.2.1 (hp4 i n m1) m1 m2
    obtain ⟨l1, l2, l3⟩ := df_ok (j := j) gGT (hp4 i n m1) m1 hK.2.2.2.2.2.2.2.2.2 hK.2.2.2.2.2.2.2.2.1.1
    have e0 : hrun (dfP Q i j) (k2 9, [], 0, 0, 0, 0) = dfR R k2 i j := by unfold dfR dfO; rw [e9]
    have e1 : dfC R k2 (A.getD (6 * jn + 1) 0) (A.getD (6 * jn + 2) 0) = hrC (dfP Q i j) (k2 9, [], 0, 0, 0, 0) := by unfold dfC dfO; rw [cb, cw, e9]
    have e2 : dfZ R k2 (A.getD (6 * jn + 1) 0) (A.getD (6 * jn + 2) 0) = hrZ (dfP Q i j) (k2 9, [], 0, 0, 0, 0) := by unfold dfZ dfO; rw [cb, cw, e9]
    have e4 : (dfR R k2 i j).1 % 4 = 0 := hrun_4 _ _ hK.2.2.2.2.2.2.2.2.1.2
    have e5 := hK.2.2.2.2.2.2.2.2.2
    rw [e1, e2]
    rw [e0] at l1 l2 l3
    obtain ⟨l4, l5⟩ := pr_9 R k2 (dfR R k2 i j).1
    exact ⟨by omega, by omega, by omega, l3, e4⟩
  have rbad : ¬ (∃ i j n, dfW R (A.getD (6 * jn + 1) 0) (A.getD (6 * jn + 2) 0) i j n) → (3 + nc_i (∃ i j n, dfW R (A.getD (6 * jn + 1) 0) (A.getD (6 * jn + 2) 0) i j n) (dfC R k2 (A.getD (6 * jn + 1) 0) (A.getD (6 * jn + 2) 0)) + pCr R k2 ≤ pCr R k2 + 500) ∧ (18 + nc_i (∃ i j n, dfW R (A.getD (6 * jn + 1) 0) (A.getD (6 * jn + 2) 0) i j n) (dfZ R k2 (A.getD (6 * jn + 1) 0) (A.getD (6 * jn + 2) 0)) + pZr R k2 ≤ pZr R k2 + 4000) := fun w => by
    rw [nc_in w, nc_in w]; omega
  have fit : cs + (nc_i (∃ i j n, i < 8 ∧ (A.getD (6 * jn + 1) 0) = nI i ∧ j < 8 ∧ (A.getD (6 * jn + 2) 0) = nI j ∧ Q.mp i = some n ∧ Q.mp j = some n) (hrC (dfP Q (A.getD (6 * jn + 1) 0).toNatClampNeg (A.getD (6 * jn + 2) 0).toNatClampNeg) (kz 12, [], 0, 0, 0, 0)) + 3) ≤ 600000 ∧ sl + (nc_i (∃ i j n, i < 8 ∧ (A.getD (6 * jn + 1) 0) = nI i ∧ j < 8 ∧ (A.getD (6 * jn + 2) 0) = nI j ∧ Q.mp i = some n ∧ Q.mp j = some n) (hrZ (dfP Q (A.getD (6 * jn + 1) 0).toNatClampNeg (A.getD (6 * jn + 2) 0).toNatClampNeg) (kz 12, [], 0, 0, 0, 0)) + 18) ≤ 7300000 := by
    by_cases w : ∃ i j n, i < 8 ∧ (A.getD (6 * jn + 1) 0) = nI i ∧ j < 8 ∧ (A.getD (6 * jn + 2) 0) = nI j ∧ Q.mp i = some n ∧ Q.mp j = some n
    · obtain ⟨i, j, n, i1, i2, j1, j2, m1, m2⟩ := w
      obtain ⟨g1, g2, g3⟩ := good i j n i1 i2 j1 j2 m1 m2
      exact fit_c hI hK (by omega) hcs hsl gok (hb.v12 g3) g1 g2
    · obtain ⟨g1, g2⟩ := bad w
      exact fit_c hI hK (by omega) hcs hsl gok hb g1 g2
  refine ⟨_, hL.rd (k := 1) (by decide) (by omega) hA, _, hL.rd (k := 2) (by decide) (by omega) hA, rfl, F, X, kz, Q, ⟨⟨hL.1, hI.abm⟩, hL.lwo⟩, by omega, by omega, fun x9 S6 hq => ?_⟩
  have key : ∃ (c : Nat) (v : Int32) (Q1 : Ab) (kz1 : Nat → Nat) (F6 : Nat → Nat × Nat), x9 = nI c ∧ c < 8 ∧ ((c = 0 ∧ ∃ i j p, i < 8 ∧ (A.getD (6 * jn + 1) 0) = nI i ∧ j < 8 ∧ (A.getD (6 * jn + 2) 0) = nI j ∧ Q.mp i = some p ∧ Q.mp j = some p ∧ v = nI (dfX kz Q i j).2.1.length ∧ Q1 = Q.sHu (dfX kz Q i j).2.1) ∨ (c = 1 ∧ (np 8 (A.getD (6 * jn + 1) 0) ∨ np 8 (A.getD (6 * jn + 2) 0)) ∧ Q1 = Q) ∨ (c = 2 ∧ (∃ i j, i < 8 ∧ (A.getD (6 * jn + 1) 0) = nI i ∧ j < 8 ∧ (A.getD (6 * jn + 2) 0) = nI j ∧ (Q.mp i = none ∨ Q.mp j = none)) ∧ Q1 = Q) ∨ (c = 3 ∧ (∃ i j p q, i < 8 ∧ (A.getD (6 * jn + 1) 0) = nI i ∧ j < 8 ∧ (A.getD (6 * jn + 2) 0) = nI j ∧ Q.mp i = some p ∧ Q.mp j = some q ∧ p ≠ q) ∧ Q1 = Q)) ∧ ((nc_i (∃ i j n, i < 8 ∧ (A.getD (6 * jn + 1) 0) = nI i ∧ j < 8 ∧ (A.getD (6 * jn + 2) 0) = nI j ∧ Q.mp i = some n ∧ Q.mp j = some n) (hrC (dfP Q (A.getD (6 * jn + 1) 0).toNatClampNeg (A.getD (6 * jn + 2) 0).toNatClampNeg) (kz 12, [], 0, 0, 0, 0)) + 3 + pCc Q kz ≤ pCc Q1 kz1 + 500) ∧ (nc_i (∃ i j n, i < 8 ∧ (A.getD (6 * jn + 1) 0) = nI i ∧ j < 8 ∧ (A.getD (6 * jn + 2) 0) = nI j ∧ Q.mp i = some n ∧ Q.mp j = some n) (hrZ (dfP Q (A.getD (6 * jn + 1) 0).toNatClampNeg (A.getD (6 * jn + 2) 0).toNatClampNeg) (kz 12, [], 0, 0, 0, 0)) + 18 + pZc Q kz ≤ pZc Q1 kz1 + 4000) ∧ LIk kz1 k2) ∧ Lw S6 F6 t m o r A X kz1 Q1 z Y R k2 ∧ (x9 = 0 → eJ S6 o 0 = v.toInt64) := by
    rcases hq with ⟨rfl, v0, S0, ⟨i, j, p, q0, q1, q2, q3, q4, q5, q6, gW⟩, rfl⟩ | ⟨rfl, rfl, h1⟩ | ⟨rfl, rfl, h1⟩ | ⟨rfl, rfl, h1⟩
    · obtain ⟨F6, g1, g2⟩ := hL.ok (v := v0.toInt64) gW
      obtain ⟨g3, g4, g5⟩ := good i j p q0 q1 q2 q3 q4 q5
      exact ⟨0, v0, _, _, F6, rfl, by decide, Or.inl ⟨rfl, i, j, p, q0, q1, q2, q3, q4, q5, q6, rfl⟩, ⟨g3, g4, hK.up (by omega)⟩, g1, fun _ => g2⟩
    · obtain ⟨g1, g2⟩ := bad (fun ⟨i, j, n, i1, i2, j1, j2, m1, m2⟩ => h1.elim (fun q => np_no q i1 i2) (fun q => np_no q j1 j2))
      exact ⟨1, 0, Q, kz, F, rfl, by decide, Or.inr (Or.inl ⟨rfl, h1, rfl⟩), ⟨g1, g2, hK⟩, hL, fun w => absurd w (by decide)⟩
    · obtain ⟨g1, g2⟩ := bad (fun ⟨i, j, n, i1, i2, j1, j2, m1, m2⟩ => by
        obtain ⟨i', j', a1, a2, a3, a4, a5⟩ := h1
        have e1 := nI_ij i2 a2 (by omega) (by omega)
        have e2 := nI_ij j2 a4 (by omega) (by omega)
        subst e1 e2
        rcases a5 with q | q
        · rw [m1] at q; cases q
        · rw [m2] at q; cases q)
      exact ⟨2, 0, Q, kz, F, rfl, by decide, Or.inr (Or.inr (Or.inl ⟨rfl, h1, rfl⟩)), ⟨g1, g2, hK⟩, hL, fun w => absurd w (by decide)⟩
    · obtain ⟨g1, g2⟩ := bad (fun ⟨i, j, n, i1, i2, j1, j2, m1, m2⟩ => by
        obtain ⟨i', j', p', q', a1, a2, a3, a4, a5, a6, a7⟩ := h1
        have e1 := nI_ij i2 a2 (by omega) (by omega)
        have e2 := nI_ij j2 a4 (by omega) (by omega)
        subst e1 e2
        rw [m1] at a5; rw [m2] at a6; cases a5; cases a6; exact a7 rfl)
      exact ⟨3, 0, Q, kz, F, rfl, by decide, Or.inr (Or.inr (Or.inr ⟨rfl, h1, rfl⟩)), ⟨g1, g2, hK⟩, hL, fun w => absurd w (by decide)⟩
  obtain ⟨c, v, Q1, kz1, F6, hx, hc8, hc, ⟨p1, p2, hK1⟩, hL6, hv⟩ := key
  have sq : Q1.G = Q.G ∧ Q1.T = Q.T ∧ Q1.E = Q.E ∧ Q1.mp = Q.mp ∧ Q1.ms = Q.ms ∧ Q1.sl = Q.sl ∧ Q1.fo = Q.fo := by
    rcases hc with ⟨-, i, j, p, -, -, -, -, -, -, -, rfl⟩ | ⟨-, -, rfl⟩ | ⟨-, -, rfl⟩ | ⟨-, -, rfl⟩ <;> exact ⟨rfl, rfl, rfl, rfl, rfl, rfl, rfl⟩
  have gok1 : ∀ p, p < 4 → (Q1.G p).ok := fun p hp => by rw [sq.1]; exact gok p hp
  have fr : cs + (nc_i (∃ i j n, i < 8 ∧ (A.getD (6 * jn + 1) 0) = nI i ∧ j < 8 ∧ (A.getD (6 * jn + 2) 0) = nI j ∧ Q.mp i = some n ∧ Q.mp j = some n) (hrC (dfP Q (A.getD (6 * jn + 1) 0).toNatClampNeg (A.getD (6 * jn + 2) 0).toNatClampNeg) (kz 12, [], 0, 0, 0, 0)) + 3) + (3 + nc_i (∃ i j n, dfW R (A.getD (6 * jn + 1) 0) (A.getD (6 * jn + 2) 0) i j n) (dfC R k2 (A.getD (6 * jn + 1) 0) (A.getD (6 * jn + 2) 0))) ≤ 600000 ∧ sl + (nc_i (∃ i j n, i < 8 ∧ (A.getD (6 * jn + 1) 0) = nI i ∧ j < 8 ∧ (A.getD (6 * jn + 2) 0) = nI j ∧ Q.mp i = some n ∧ Q.mp j = some n) (hrZ (dfP Q (A.getD (6 * jn + 1) 0).toNatClampNeg (A.getD (6 * jn + 2) 0).toNatClampNeg) (kz 12, [], 0, 0, 0, 0)) + 18) + (18 + nc_i (∃ i j n, dfW R (A.getD (6 * jn + 1) 0) (A.getD (6 * jn + 2) 0) i j n) (dfZ R k2 (A.getD (6 * jn + 1) 0) (A.getD (6 * jn + 2) 0))) ≤ 7300000 := by
    by_cases w : ∃ i j n, dfW R (A.getD (6 * jn + 1) 0) (A.getD (6 * jn + 2) 0) i j n
    · obtain ⟨i, j, n, hd⟩ := w
      obtain ⟨g1, g2, g3, g4, g5⟩ := rgood i j n hd
      exact fit_r (by omega) hcs hsl p1 p2 gok1 (kzB.of hL6.1 hK1) (R1 := R) (k21 := upF k2 9 (dfR R k2 i j).1) gokR (by rw [upF_o (by decide)]; exact hK.2.2.2.2.1) (by rw [upF_o (by decide)]; exact hK.2.2.2.2.2.2.1) (by rw [upF_o (by decide)]; exact hK.2.2.2.2.2.2.2.1) (by rw [upF_s]; exact g4) g1 g2
    · obtain ⟨g1, g2⟩ := rbad w
      exact fit_r (by omega) hcs hsl p1 p2 gok1 (kzB.of hL6.1 hK1) (R1 := R) gokR hK.2.2.2.2.1 hK.2.2.2.2.2.2.1 hK.2.2.2.2.2.2.2.1 hK.2.2.2.2.2.2.2.2.1.1 g1 g2
  refine ⟨_, hL6.rd (k := 1) (by decide) (by omega) hA, _, hL6.rd (k := 2) (by decide) (by omega) hA, rfl, F6, z, Y, R, k2, ⟨hL6.2.1, hK.2.2.2.2.2.2.2.2.1⟩, by omega, by omega, fun v9 S9 hr => ?_⟩
  have key2 : ∃ (th : Nat) (R1 : Rb) (k21 : Nat → Nat), ((th = 0 ∧ k21 = upF k2 9 (dfR R k2 (A.getD (6 * jn + 1) 0).toNatClampNeg (A.getD (6 * jn + 2) 0).toNatClampNeg).1 ∧ ∃ i j n, dfW R (A.getD (6 * jn + 1) 0) (A.getD (6 * jn + 2) 0) i j n ∧ v9 = nI (dfR R k2 i j).2.1.length ∧ R1 = R.sQ (R.Q.sHu (dfR R k2 i j).2.1)) ∨ (th = 1 ∧ k21 = k2 ∧ (np 8 (A.getD (6 * jn + 1) 0) ∨ np 8 (A.getD (6 * jn + 2) 0)) ∧ v9 = 0 ∧ R1 = R) ∨ (th = 2 ∧ k21 = k2 ∧ (∃ i j, i < 8 ∧ (A.getD (6 * jn + 1) 0) = nI i ∧ j < 8 ∧ (A.getD (6 * jn + 2) 0) = nI j ∧ (R.Q.mp i = none ∨ R.Q.mp j = none)) ∧ v9 = 0 ∧ R1 = R) ∨ (th = 3 ∧ k21 = k2 ∧ (∃ i j p q, i < 8 ∧ (A.getD (6 * jn + 1) 0) = nI i ∧ j < 8 ∧ (A.getD (6 * jn + 2) 0) = nI j ∧ R.Q.mp i = some p ∧ R.Q.mp j = some q ∧ p ≠ q) ∧ v9 = 0 ∧ R1 = R)) ∧ ((3 + nc_i (∃ i j n, dfW R (A.getD (6 * jn + 1) 0) (A.getD (6 * jn + 2) 0) i j n) (dfC R k2 (A.getD (6 * jn + 1) 0) (A.getD (6 * jn + 2) 0)) + pCr R k2 ≤ pCr R k21 + 500) ∧ (18 + nc_i (∃ i j n, dfW R (A.getD (6 * jn + 1) 0) (A.getD (6 * jn + 2) 0) i j n) (dfZ R k2 (A.getD (6 * jn + 1) 0) (A.getD (6 * jn + 2) 0)) + pZr R k2 ≤ pZr R k21 + 4000) ∧ LIk kz1 k21) ∧ mdW S6 S9 F6 m R1 k21 th := by
    rcases hr with ⟨i, j, n, hd, q3, gW⟩ | ⟨h1, q1, gW⟩ | ⟨h1, q1, gW⟩ | ⟨h1, q1, gW⟩
    · obtain ⟨g1, g2, g3, g4, g5⟩ := rgood i j n hd
      have cb : (A.getD (6 * jn + 1) 0).toNatClampNeg = i := by rw [hd.2.1]; exact nI_clamp (by have := hd.1; omega)
      have cw : (A.getD (6 * jn + 2) 0).toNatClampNeg = j := by rw [hd.2.2.2.1]; exact nI_clamp (by have := hd.2.2.1; omega)
      exact ⟨0, _, _, Or.inl ⟨rfl, by rw [cb, cw], i, j, n, hd, q3, rfl⟩, ⟨g1, g2, hK1.r9 g3 g4 g5⟩, gW⟩
    · obtain ⟨g1, g2⟩ := rbad (fun ⟨i, j, n, i1, i2, j1, j2, m1, m2⟩ => h1.elim (fun q => np_no q i1 i2) (fun q => np_no q j1 j2))
      exact ⟨1, _, _, Or.inr (Or.inl ⟨rfl, rfl, h1, q1, rfl⟩), ⟨g1, g2, hK1⟩, gW⟩
    · obtain ⟨g1, g2⟩ := rbad (fun ⟨i, j, n, i1, i2, j1, j2, m1, m2⟩ => by
        obtain ⟨i', j', a1, a2, a3, a4, a5⟩ := h1
        have e1 := nI_ij i2 a2 (by omega) (by omega)
        have e2 := nI_ij j2 a4 (by omega) (by omega)
        subst e1 e2
        rcases a5 with q | q
        · rw [m1] at q; cases q
        · rw [m2] at q; cases q)
      exact ⟨2, _, _, Or.inr (Or.inr (Or.inl ⟨rfl, rfl, h1, q1, rfl⟩)), ⟨g1, g2, hK1⟩, gW⟩
    · obtain ⟨g1, g2⟩ := rbad (fun ⟨i, j, n, i1, i2, j1, j2, m1, m2⟩ => by
        obtain ⟨i', j', p', q', a1, a2, a3, a4, a5, a6, a7⟩ := h1
        have e1 := nI_ij i2 a2 (by omega) (by omega)
        have e2 := nI_ij j2 a4 (by omega) (by omega)
        subst e1 e2
        rw [m1] at a5; rw [m2] at a6; cases a5; cases a6; exact a7 rfl)
      exact ⟨3, _, _, Or.inr (Or.inr (Or.inr ⟨rfl, rfl, h1, q1, rfl⟩)), ⟨g1, g2, hK1⟩, gW⟩
  obtain ⟨th, R1, k21, hr, ⟨r1, r2, hK2⟩, hw⟩ := key2
  obtain ⟨F9, z9, Y9, hL9, hth, -, hj9⟩ := hL6.ref hw
  obtain ⟨a1, a2, a3⟩ := ag_df gGT hI.1 hI.2.1 hp4 hc hr
  have eR : R1.C = R.C ∧ R1.M = R.M ∧ pCr R1 k21 = pCr R k21 ∧ pZr R1 k21 = pZr R k21 := by
    rcases hr with ⟨-, -, i, j, n, -, -, rfl⟩ | ⟨-, -, -, -, rfl⟩ | ⟨-, -, -, -, rfl⟩ | ⟨-, -, -, -, rfl⟩ <;> exact ⟨rfl, rfl, rfl, rfl⟩
  have hI1 : LIv Q1 R1 := hI.cg a3 sq.1 sq.2.1 sq.2.2.1 sq.2.2.2.1 sq.2.2.2.2.1 sq.2.2.2.2.2.1 sq.2.2.2.2.2.2 eR.1 eR.2.1
  refine lw_cmp hL9 (by rw [hth, a1, ← hx]) (fun w => ?_) (by omega) (by omega) (nx_k hk hj hA hL9 hI1 hK2 hcs hsl p1 p2 (by rw [eR.2.2.1]; exact r1) (by rw [eR.2.2.2]; exact r2) (by omega) (by omega))
  rw [hj9, hv w, a2 (nI_z hc8 (hx.symm.trans w))]
