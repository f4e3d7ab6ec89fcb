/-! ===== The law: view ===== -/
theorem nx_k {r t m o j k : Nat} {A : List Int32} {S9 : MM} {F9 : Nat → Nat × Nat} {X1 : Nat → GX} {kz kz1 : Nat → Nat} {Q Q1 : Ab} {z9 : Nat → Nat} {Y9 : Nat → Nat → Nat} {R R1 : Rb} {k2 k21 : Nat → Nat} {cs sl cs1 sl1 C Z C2 Z2 : Nat} (hk : k + 3 * j = 300 + 1) (hj : 6 * j + 6 ≤ A.length) (hA : A.length ≤ 384) (hL : Lw S9 F9 t m o r A X1 kz1 Q1 z9 Y9 R1 k21) (hI : LIv Q1 R1) (hK : LIk kz1 k21) (hcs : cs ≤ cB j Q kz R k2) (hsl : sl ≤ zB j Q kz R k2) (h1 : C + pCc Q kz ≤ pCc Q1 kz1 + 500) (h2 : Z + pZc Q kz ≤ pZc Q1 kz1 + 4000) (h3 : C2 + pCr R k2 ≤ pCr R1 k21 + 500) (h4 : Z2 + pZr R k2 ≤ pZr R1 k21 + 4000) (hc : cs1 ≤ cs + C + C2) (hs : sl1 ≤ sl + Z + Z2) : ∃ k1, k1 < k ∧ I_nx r A k1 (lwL r t m o j) [] S9 cs1 sl1 := by
  refine nx_of hk hj hA ⟨hL, hI, hK, ?_, ?_⟩
  · unfold cB at *; omega
  · unfold zB at *; omega
theorem viN_le {Q : Ab} {R : Rb} (hI : LIv Q R) (i : Nat) : viN Q i ≤ 8192 := by
  unfold viN
  cases e : Q.mp i with
  | none => exact Nat.zero_le _
  | some p =>
    have h4 := (hI.2.2.1 i p e).1
    have g := (hI.2.2.2.1 p h4).1
    show (vwG (Q.G p) (Q.ms i) (Q.T p).od).length ≤ 8192
    unfold vwG
    rw [List.length_map]
    have := List.length_filter_le (fun x => decide (stM (Q.G p) (Q.ms i) (x - 1) = 1)) (Q.T p).od
    have := g.od_n
    have := g.1.hn
    exact Nat.le_trans (List.length_filter_le _ _) (by omega)
theorem LIk.v10 {kz k2 : Nat → Nat} (h : LIk kz k2) {v : Nat} (hv : v ≤ 16384) : LIk (upF kz 10 v) k2 := by
  obtain ⟨h1, h2, h3, h4⟩ := h
  refine ⟨by rw [upF_s]; exact hv, fun p hp => by rw [upF_o (by omega)]; exact h2 p hp, by rw [upF_o (by decide)]; exact h3, h4⟩
theorem kzB.v10 {kz : Nat → Nat} (h : kzB kz) {v : Nat} (hv : v ≤ 16384) : kzB (upF kz 10 v) := by
  obtain ⟨h0, h1, h2, h3, h4, h5, h6, h7⟩ := h
  exact ⟨by rw [upF_o (by decide)]; exact h0, by rw [upF_o (by decide)]; exact h1, fun k hk => by rw [upF_o (by omega)]; exact h2 k hk, fun k hk => by rw [upF_o (by omega)]; exact h3 k hk, by rw [upF_s]; exact hv, by rw [upF_o (by decide)]; exact h5, fun k hk => by rw [upF_o (by omega)]; exact h6 k hk, by rw [upF_o (by decide)]; exact h7⟩
set_option maxRecDepth 100000 in
set_option maxHeartbeats 2000000 in
theorem lwc_vi {r k : Nat} {A : List Int32} {lo : List (Nat × MV)} {st : List MV} {S1 : MM} {cs sl : Nat} (h : I_lc r A k lo st S1 cs sl) : GoL k r A 1210 lo st S1 cs sl := by
  obtain ⟨jn, t, m, o, F, X, kz, Q, z, Y, R, k2, hk, hj, hA, ⟨hL, hI, hK, hcs, hsl⟩, rfl, rfl⟩ := h
  refine ⟨300, ?_⟩
  show (∃ v_1 : Int32, (r = r ∧ vp_in ((nI (6 * jn)) + (1 : Int32)) A.length ∧ v_1 = A.getD ((nI (6 * jn)) + (1 : Int32)).toNatClampNeg 0) ∧ (2 = 2 ∧ (∃ (F_2 : Nat → Nat × Nat) (X_3 : Nat → GX) (kz_4 : Nat → Nat) (Q_5 : Ab), ((WT S1 F_2 t X_3 kz_4 Q_5 ∧ AbM Q_5) ∧ lwO S1 F_2 o) ∧ cs + (nc_i (∃ i q, i < 8 ∧ v_1 = nI i ∧ Q_5.mp i = some q) (vgC (kz_4 10) (viN Q_5 v_1.toNatClampNeg)) + 2) ≤ 600128 ∧ sl + (nc_i (∃ i q, i < 8 ∧ v_1 = nI i ∧ Q_5.mp i = some q) (vgZ (kz_4 10) (viN Q_5 v_1.toNatClampNeg)) + 12) ≤ 7301098 ∧ (∀ (x_7 : Int32) (S_6 : MM), ((x_7 = 0 ∧ ∃ (v0 : Int32) (S0 : MM), (∃ i p, i < 8 ∧ v_1 = nI i ∧ Q_5.mp i = some p ∧ v0 = nI (vwG (Q_5.G p) (Q_5.ms i) (Q_5.T p).od).length ∧ wtQ S1 S0 F_2 t X_3 (upF kz_4 10 (vgN (kz_4 10) (viN Q_5 i))) (Q_5.sVw (vwG (Q_5.G p) (Q_5.ms i) (Q_5.T p).od))) ∧ S_6 = loJ S0 o v0.toInt64) ∨ (x_7 = 1 ∧ S_6 = S1 ∧ (np 8 v_1)) ∨ (x_7 = 2 ∧ S_6 = S1 ∧ (∃ i, i < 8 ∧ v_1 = nI i ∧ Q_5.mp i = none))) → (∃ v_8 : Int32, (r = r ∧ vp_in ((nI (6 * jn)) + (1 : Int32)) A.length ∧ v_8 = A.getD ((nI (6 * jn)) + (1 : Int32)).toNatClampNeg 0) ∧ (0 = 0 ∧ (∃ (F_9 : Nat → Nat × Nat) (z_10 : Nat → Nat) (Y_11 : Nat → Nat → Nat) (R_12 : Rb) (kz_13 : Nat → Nat), (MD S_6 F_9 m z_10 Y_11 R_12 kz_13) ∧ cs + (nc_i (∃ i q, i < 8 ∧ v_1 = nI i ∧ Q_5.mp i = some q) (vgC (kz_4 10) (viN Q_5 v_1.toNatClampNeg)) + 2) + 2 ≤ 600128 ∧ sl + (nc_i (∃ i q, i < 8 ∧ v_1 = nI i ∧ Q_5.mp i = some q) (vgZ (kz_4 10) (viN Q_5 v_1.toNatClampNeg)) + 12) + 12 ≤ 7301098 ∧ (∀ (x_15 : Int32) (S_14 : MM), ((∃ i n, i < 8 ∧ v_8 = nI i ∧ R_12.Q.mp i = some n ∧ x_15 = nI (vwR (R_12.Q.G n) (R_12.M i) (R_12.Q.T n).od).length ∧ mdW S_6 S_14 F_9 m (R_12.sQ (R_12.Q.sVw (vwR (R_12.Q.G n) (R_12.M i) (R_12.Q.T n).od))) kz_13 0) ∨ (np 8 v_8 ∧ x_15 = 0 ∧ mdW S_6 S_14 F_9 m R_12 kz_13 1) ∨ ((∃ i, i < 8 ∧ v_8 = nI i ∧ R_12.Q.mp i = none) ∧ x_15 = 0 ∧ mdW S_6 S_14 F_9 m R_12 kz_13 2)) → (0 = 0 ∧ (∃ (v9_16 : Int32), (isO S_14 15 m ∧ mI S_14 1551 m = v9_16) ∧ cs + (nc_i (∃ i q, i < 8 ∧ v_1 = nI i ∧ Q_5.mp i = some q) (vgC (kz_4 10) (viN Q_5 v_1.toNatClampNeg)) + 2) + 2 ≤ 600128 ∧ sl + (nc_i (∃ i q, i < 8 ∧ v_1 = nI i ∧ Q_5.mp i = some q) (vgZ (kz_4 10) (viN Q_5 v_1.toNatClampNeg)) + 12) + 12 ≤ 7301098 ∧ (((v9_16 = x_7 → ((¬ x_7 = 0 → (∃ k1, k1 < k ∧ I_nx r A k1 [(0, .inr (.inr (some r))), (1, .inr (.inr (some t))), (2, .inr (.inr (some m))), (3, .inr (.inr (some o))), (4, .inl (nI (6 * jn)))] [] S_14 (cs + (nc_i (∃ i q, i < 8 ∧ v_1 = nI i ∧ Q_5.mp i = some q) (vgC (kz_4 10) (viN Q_5 v_1.toNatClampNeg)) + 2) + 2) (sl + (nc_i (∃ i q, i < 8 ∧ v_1 = nI i ∧ Q_5.mp i = some q) (vgZ (kz_4 10) (viN Q_5 v_1.toNatClampNeg)) + 12) + 12))) ∧ (x_7 = 0 → (isO S_14 18 o ∧ inR S_14 o (0 : Int32) ∧ (((lg_cmp (eJ S_14 o (0 : Int32).toNatClampNeg) x_15.toInt64) = 0 → (∃ k1, k1 < k ∧ I_nx r A k1 [(0, .inr (.inr (some r))), (1, .inr (.inr (some t))), (2, .inr (.inr (some m))), (3, .inr (.inr (some o))), (4, .inl (nI (6 * jn)))] [] S_14 (cs + (nc_i (∃ i q, i < 8 ∧ v_1 = nI i ∧ Q_5.mp i = some q) (vgC (kz_4 10) (viN Q_5 v_1.toNatClampNeg)) + 2) + 2) (sl + (nc_i (∃ i q, i < 8 ∧ v_1 = nI i ∧ Q_5.mp i = some q) (vgZ (kz_4 10) (viN Q_5 v_1.toNatClampNeg)) + 12) + 12))) ∧ (¬ (lg_cmp (eJ S_14 o (0 : Int32).toNatClampNeg) x_15.toInt64) = 0 → (([] : List MV) = [] ∧ retL (some (.inl (0 : Int32))) S_14 (cs + (nc_i (∃ i q, i < 8 ∧ v_1 = nI i ∧ Q_5.mp i = some q) (vgC (kz_4 10) (viN Q_5 v_1.toNatClampNeg)) + 2) + 2) (sl + (nc_i (∃ i q, i < 8 ∧ v_1 = nI i ∧ Q_5.mp i = some q) (vgZ (kz_4 10) (viN Q_5 v_1.toNatClampNeg)) + 12) + 12)))))))) ∧ (¬ v9_16 = x_7 → (([] : List MV) = [] ∧ retL (some (.inl (0 : Int32))) S_14 (cs + (nc_i (∃ i q, i < 8 ∧ v_1 = nI i ∧ Q_5.mp i = some q) (vgC (kz_4 10) (viN Q_5 v_1.toNatClampNeg)) + 2) + 2) (sl + (nc_i (∃ i q, i < 8 ∧ v_1 = nI i ∧ Q_5.mp i = some q) (vgZ (kz_4 10) (viN Q_5 v_1.toNatClampNeg)) + 12) + 12)))))))))))))))
  obtain ⟨rc, rs⟩ := room_le hL.1 hI hK (show jn ≤ 64 by omega) hcs hsl
  have hB : BdQ Q := hI.1.bd hL.2.1.bd
  obtain ⟨eG, eT, eK, etp, esl, eft, efo, emp, evw, ehu, eap, ean⟩ := id hI.1
  have gok : ∀ p, p < 4 → (Q.G p).ok := fun p hp => (hI.2.2.2.1 p hp).1.1
  have hb := kzB.of hL.1 hK
  have b10 := hL.1.kb.2.2.2.2.1
  have good : ∀ i q, i < 8 → (A.getD (6 * jn + 1) 0) = nI i → Q.mp i = some q → (nc_i (∃ i q, i < 8 ∧ (A.getD (6 * jn + 1) 0) = nI i ∧ Q.mp i = some q) (vgC (kz 10) (viN Q (A.getD (6 * jn + 1) 0).toNatClampNeg)) + 2 + pCc Q kz ≤ pCc Q (upF kz 10 (vgN (kz 10) (viN Q i))) + 500) ∧ (nc_i (∃ i q, i < 8 ∧ (A.getD (6 * jn + 1) 0) = nI i ∧ Q.mp i = some q) (vgZ (kz 10) (viN Q (A.getD (6 * jn + 1) 0).toNatClampNeg)) + 12 + pZc Q kz ≤ pZc Q (upF kz 10 (vgN (kz 10) (viN Q i))) + 4000) ∧ vgN (kz 10) (viN Q i) ≤ 16384 := fun i q i1 i2 i3 => by
    have cb : (A.getD (6 * jn + 1) 0).toNatClampNeg = i := by rw [i2]; exact nI_clamp (by omega)
    rw [nc_it ⟨i, q, i1, i2, i3⟩, nc_it ⟨i, q, i1, i2, i3⟩, cb]
    have l1 := vgC_le (n := kz 10) (by omega) (viN Q i)
    have l2 := vgZ_eq (n := kz 10) (viN Q i)
    have l3 := vgN_le (n := kz 10) (b := 8192) hb.2.2.2.2.1 (viN Q i) (viN_le hI i)
    obtain ⟨l4, l5⟩ := pc_10 Q kz (vgN (kz 10) (viN Q i))
    exact ⟨by omega, by omega, l3⟩
  have bad : ¬ (∃ i q, i < 8 ∧ (A.getD (6 * jn + 1) 0) = nI i ∧ Q.mp i = some q) → (nc_i (∃ i q, i < 8 ∧ (A.getD (6 * jn + 1) 0) = nI i ∧ Q.mp i = some q) (vgC (kz 10) (viN Q (A.getD (6 * jn + 1) 0).toNatClampNeg)) + 2 + pCc Q kz ≤ pCc Q kz + 500) ∧ (nc_i (∃ i q, i < 8 ∧ (A.getD (6 * jn + 1) 0) = nI i ∧ Q.mp i = some q) (vgZ (kz 10) (viN Q (A.getD (6 * jn + 1) 0).toNatClampNeg)) + 12 + pZc Q kz ≤ pZc Q kz + 4000) := fun w => by
    rw [nc_in w, nc_in w]; omega
  have fit : cs + (nc_i (∃ i q, i < 8 ∧ (A.getD (6 * jn + 1) 0) = nI i ∧ Q.mp i = some q) (vgC (kz 10) (viN Q (A.getD (6 * jn + 1) 0).toNatClampNeg)) + 2) ≤ 600000 ∧ sl + (nc_i (∃ i q, i < 8 ∧ (A.getD (6 * jn + 1) 0) = nI i ∧ Q.mp i = some q) (vgZ (kz 10) (viN Q (A.getD (6 * jn + 1) 0).toNatClampNeg)) + 12) ≤ 7300000 := by
    by_cases w : ∃ i q, i < 8 ∧ (A.getD (6 * jn + 1) 0) = nI i ∧ Q.mp i = some q
    · obtain ⟨i, q, i1, i2, i3⟩ := w
      obtain ⟨g1, g2, g3⟩ := good i q i1 i2 i3
      exact fit_c hI hK (by omega) hcs hsl gok (hb.v10 g3) g1 g2
    · obtain ⟨g1, g2⟩ := bad w
      exact fit_c hI hK (by omega) hcs hsl gok hb g1 g2
  refine ⟨_, hL.rd (k := 1) (by decide) (by omega) hA, rfl, F, X, kz, Q, ⟨⟨hL.1, hI.abm⟩, hL.lwo⟩, by omega, by omega, fun x9 S6 hq => ?_⟩
  have key : ∃ (c : Nat) (v : Int32) (Q1 : Ab) (kz1 : Nat → Nat) (F6 : Nat → Nat × Nat), x9 = nI c ∧ c < 8 ∧ ((c = 0 ∧ ∃ i p, i < 8 ∧ (A.getD (6 * jn + 1) 0) = nI i ∧ Q.mp i = some p ∧ v = nI (vwG (Q.G p) (Q.ms i) (Q.T p).od).length ∧ Q1 = Q.sVw (vwG (Q.G p) (Q.ms i) (Q.T p).od)) ∨ (c = 1 ∧ np 8 (A.getD (6 * jn + 1) 0) ∧ Q1 = Q) ∨ (c = 2 ∧ (∃ i, i < 8 ∧ (A.getD (6 * jn + 1) 0) = nI i ∧ Q.mp i = none) ∧ Q1 = Q)) ∧ ((nc_i (∃ i q, i < 8 ∧ (A.getD (6 * jn + 1) 0) = nI i ∧ Q.mp i = some q) (vgC (kz 10) (viN Q (A.getD (6 * jn + 1) 0).toNatClampNeg)) + 2 + pCc Q kz ≤ pCc Q1 kz1 + 500) ∧ (nc_i (∃ i q, i < 8 ∧ (A.getD (6 * jn + 1) 0) = nI i ∧ Q.mp i = some q) (vgZ (kz 10) (viN Q (A.getD (6 * jn + 1) 0).toNatClampNeg)) + 12 + pZc Q kz ≤ pZc Q1 kz1 + 4000) ∧ LIk kz1 k2) ∧ Lw S6 F6 t m o r A X kz1 Q1 z Y R k2 ∧ (x9 = 0 → eJ S6 o 0 = v.toInt64) := by
    rcases hq with ⟨rfl, v0, S0, ⟨i, p, q0, q1, q2, q3, gW⟩, rfl⟩ | ⟨rfl, rfl, h1⟩ | ⟨rfl, rfl, h1⟩
    · obtain ⟨F6, g1, g2⟩ := hL.ok (v := v0.toInt64) gW
      obtain ⟨g3, g4, g5⟩ := good i p q0 q1 q2
      exact ⟨0, v0, _, _, F6, rfl, by decide, Or.inl ⟨rfl, i, p, q0, q1, q2, q3, rfl⟩, ⟨g3, g4, hK.v10 g5⟩, g1, fun _ => g2⟩
    · obtain ⟨g1, g2⟩ := bad (fun ⟨i, q, i1, i2, i3⟩ => np_no h1 i1 i2)
      exact ⟨1, 0, Q, kz, F, rfl, by decide, Or.inr (Or.inl ⟨rfl, h1, rfl⟩), ⟨g1, g2, hK⟩, hL, fun w => absurd w (by decide)⟩
    · obtain ⟨g1, g2⟩ := bad (fun ⟨i, q, i1, i2, i3⟩ => by
        obtain ⟨i', j1, j2, j3⟩ := h1
        have := nI_ij i2 j2 (by omega) (by omega)
        subst this
        rw [i3] at j3; cases j3)
      exact ⟨2, 0, Q, kz, F, rfl, by decide, Or.inr (Or.inr ⟨rfl, h1, rfl⟩), ⟨g1, g2, hK⟩, hL, fun w => absurd w (by decide)⟩
  obtain ⟨c, v, Q1, kz1, F6, hx, hc8, hc, ⟨p1, p2, hK1⟩, hL6, hv⟩ := key
  refine ⟨_, hL6.rd (k := 1) (by decide) (by omega) hA, rfl, F6, z, Y, R, k2, hL6.2.1, by omega, by omega, fun v9 S9 hr => ?_⟩
  have key2 : ∃ (th : Nat) (R1 : Rb), ((th = 0 ∧ ∃ i n, i < 8 ∧ (A.getD (6 * jn + 1) 0) = nI i ∧ R.Q.mp i = some n ∧ v9 = nI (vwR (R.Q.G n) (R.M i) (R.Q.T n).od).length ∧ R1 = R.sQ (R.Q.sVw (vwR (R.Q.G n) (R.M i) (R.Q.T n).od))) ∨ (th = 1 ∧ np 8 (A.getD (6 * jn + 1) 0) ∧ v9 = 0 ∧ R1 = R) ∨ (th = 2 ∧ (∃ i, i < 8 ∧ (A.getD (6 * jn + 1) 0) = nI i ∧ R.Q.mp i = none) ∧ v9 = 0 ∧ R1 = R)) ∧ mdW S6 S9 F6 m R1 k2 th := by
    rcases hr with ⟨i, n, q0, q1, q2, q3, gW⟩ | ⟨q0, q1, gW⟩ | ⟨q0, q1, gW⟩
    · exact ⟨0, _, Or.inl ⟨rfl, i, n, q0, q1, q2, q3, rfl⟩, gW⟩
    · exact ⟨1, _, Or.inr (Or.inl ⟨rfl, q0, q1, rfl⟩), gW⟩
    · exact ⟨2, _, Or.inr (Or.inr ⟨rfl, q0, q1, rfl⟩), gW⟩
  obtain ⟨th, R1, hr, hw⟩ := key2
  obtain ⟨F9, z9, Y9, hL9, hth, -, hj9⟩ := hL6.ref hw
  obtain ⟨a1, a2, a3⟩ := ag_vi (fun n hn => (hI.2.2.2.1 n hn).1) hI.1 hI.2.1 (fun i p hp => (hI.2.2.1 i p hp).1) hc hr
  have eR : R1.C = R.C ∧ R1.M = R.M ∧ pCr R1 k2 = pCr R k2 ∧ pZr R1 k2 = pZr R k2 := by
    rcases hr with ⟨-, i, n, -, -, -, -, rfl⟩ | ⟨-, -, -, rfl⟩ | ⟨-, -, -, rfl⟩ <;> exact ⟨rfl, rfl, rfl, rfl⟩
  have hI1 : LIv Q1 R1 := by
    rcases hc with ⟨-, i, p, -, -, -, -, rfl⟩ | ⟨-, -, rfl⟩ | ⟨-, -, rfl⟩ <;> exact hI.cg a3 rfl rfl rfl rfl rfl rfl rfl eR.1 eR.2.1
  refine lw_cmp hL9 (by rw [hth, a1, ← hx]) (fun w => ?_) (by omega) (by omega) (nx_k (C2 := 2) (Z2 := 12) hk hj hA hL9 hI1 hK1 hcs hsl p1 p2 (by rw [eR.2.2.1]; omega) (by rw [eR.2.2.2]; omega) (by omega) (by omega))
  rw [hj9, hv w, a2 (nI_z hc8 (hx.symm.trans w))]
