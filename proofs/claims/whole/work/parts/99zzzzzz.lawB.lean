/-! ===== The law: undo ===== -/
theorem uM_len (b : Bool) (L : List Nat) : (uM b L).length = L.length := by
  unfold uM
  split
  · exact List.length_reverse
  · rfl
section UDL
variable {Q Q1 : Ab} {R R1 : Rb} {p v v' : Int32} {c th n : Nat} {kz k2 : Nat → Nat}
theorem udA.uc {d : Nat} {e : Bool × Nat × Nat} (h : udA R p n d e) : uC R n = (udL R n e).length := by
  obtain ⟨h1, h2, h3, h4⟩ := h
  have : (R.C n).getLast? = some e := by
    rw [List.getLast?_eq_getElem?, ← h3]
    exact h4
  unfold uC udL
  rw [this]
theorem unC_some {e : Nat × Nat} (h : (Q.E n).getLast? = some e) : nc_unC Q n = nc_if (roP (Q.G n) n (cuN (Q.G n) e.1 e.2)) (runC (Q.G n) (owN (Q.G n) n) (cuN (Q.G n) e.1 e.2)) 0 ∧ nc_unZ Q n = nc_if (roP (Q.G n) n (cuN (Q.G n) e.1 e.2)) (runZ (Q.G n) (owN (Q.G n) n) (cuN (Q.G n) e.1 e.2)) 0 := by
  unfold nc_unC nc_unZ
  rw [h]
  exact ⟨rfl, rfl⟩
theorem un_b (hI : LIv Q R) (hK : LIk kz k2) (hb : kzB kz) (hn : n < 4) : nc_unC Q n + pCc Q kz ≤ 295041 ∧ nc_unZ Q n + pZc Q kz ≤ 4262946 := by
  obtain ⟨p1, p2⟩ := pc_b (fun p hp => (hI.2.2.2.1 p hp).1.1) hb
  cases h : (Q.E n).getLast? with
  | none =>
    have z1 : nc_unC Q n = 0 := by unfold nc_unC; rw [h]
    have z2 : nc_unZ Q n = 0 := by unfold nc_unZ; rw [h]
    omega
  | some e =>
    obtain ⟨e1, e2⟩ := unC_some h
    rw [e1, e2]
    by_cases c : roP (Q.G n) n (cuN (Q.G n) e.1 e.2)
    · rw [nc_t c, nc_t c]
      have := ow_b hI hK hb hn c
      omega
    · rw [nc_f c, nc_f c]
      omega
theorem un_z (h : Q.E n = []) : nc_unC Q n = 0 ∧ nc_unZ Q n = 0 := by
  unfold nc_unC nc_unZ
  rw [h]
  exact ⟨rfl, rfl⟩

theorem ag_und (hI : LIv Q R) (hc : ((c = 0 ∧ ∃ (n : Nat) (e : Nat × Nat) (G' : Gr) (T' : Tr), n < 4 ∧ p = nI n ∧ (Q.E n).getLast? = some e ∧ roP (Q.G n) n (cuN (Q.G n) e.1 e.2) ∧ v = nI (cuN (Q.G n) e.1 e.2) ∧ UndR n (owN (Q.G n) n) e.1 e.2 (Q.G n) (Q.T n) G' T' ∧ Q1 = Q.sPe n G' T' (Q.E n).dropLast) ∨ (c = 1 ∧ np 4 p ∧ Q1 = Q) ∨ (c = 2 ∧ (∃ n, n < 4 ∧ p = nI n ∧ Q.E n = []) ∧ Q1 = Q) ∨ (c = 3 ∧ (∃ (n : Nat) (e : Nat × Nat), n < 4 ∧ p = nI n ∧ (Q.E n).getLast? = some e ∧ ¬ roP (Q.G n) n (cuN (Q.G n) e.1 e.2)) ∧ Q1 = Q))) (hr : ((th = 0 ∧ ∃ (n d : Nat) (c : Bool × Nat × Nat) (G' : Gr) (T' : Tr), udA R p n d c ∧ roP (R.Q.G n) n (udL R n c).length ∧ v' = nI (udL R n c).length ∧ RuR n (owN (R.Q.G n) n) c.1 (uM c.1 (udL R n c)) (R.Q.G n) (R.Q.T n) G' T' ∧ R1 = R.sP n G' T' (R.Q.Kn n) (R.C n).dropLast) ∨ (th = 1 ∧ np 4 p ∧ R1 = R) ∨ (th = 2 ∧ (∃ n, n < 4 ∧ p = nI n ∧ R.C n = []) ∧ R1 = R) ∨ (th = 3 ∧ (∃ n d c, udA R p n d c ∧ ¬ roP (R.Q.G n) n (udL R n c).length) ∧ R1 = R))) : th = c ∧ (c = 0 → v' = v) ∧ LIv Q1 R1 ∧ ((nc_i (∃ n, n < 4 ∧ p = nI n) (nc_unC Q p.toNatClampNeg) + 2) + pCc Q kz ≤ pCc Q1 kz + 500 ∧ (nc_i (∃ n, n < 4 ∧ p = nI n) (nc_unZ Q p.toNatClampNeg) + 12) + pZc Q kz ≤ pZc Q1 kz + 4000) ∧ ((3 + nc_i (∃ n d c, udA R p n d c ∧ roP (R.Q.G n) n (udL R n c).length) (dC1 R p.toNatClampNeg (uC R p.toNatClampNeg))) + pCr R k2 ≤ pCr R1 k2 + 500 ∧ (18 + nc_i (∃ n d c, udA R p n d c ∧ roP (R.Q.G n) n (udL R n c).length) (dC2 R p.toNatClampNeg (uC R p.toNatClampNeg))) + pZr R k2 ≤ pZr R1 k2 + 4000) := by
  obtain ⟨eG, eT, eK, etp, esl, eft, efo, emp, evw, ehu, eap, ean⟩ := id hI.1
  have el : ∀ {n e}, n < 4 → (Q.E n).getLast? = some e → R.C n = [] → False := fun {n e} hn he hc => by
    have := (hI.2.2.2.1 n hn).2.2.2.1
    rw [hc] at this
    rw [List.eq_nil_of_length_eq_zero this] at he
    cases he
  have el2 : ∀ {n d}, n < 4 → Q.E n = [] → d + 1 = (R.C n).length → False := fun {n d} hn he hc => by
    have := (hI.2.2.2.1 n hn).2.2.2.1
    rw [he] at this
    have : 0 = (R.C n).length := this
    omega
  have cp : ∀ n, n < 4 → p = nI n → p.toNatClampNeg = n := fun n h1 h2 => by rw [h2]; exact nI_clamp (by omega)
  have uE : ∀ n c, udL R n c = uL (Q.G n) n c (Q.T n).od := fun n c => by unfold udL; rw [eG, eT]
  have cz : ∀ n, n < 4 → p = nI n → nc_unC Q n = 0 → nc_unZ Q n = 0 → ((nc_i (∃ n, n < 4 ∧ p = nI n) (nc_unC Q p.toNatClampNeg) + 2) + pCc Q kz ≤ pCc Q kz + 500 ∧ (nc_i (∃ n, n < 4 ∧ p = nI n) (nc_unZ Q p.toNatClampNeg) + 12) + pZc Q kz ≤ pZc Q kz + 4000) := fun n h1 h2 z1 z2 => by
    rw [nc_it ⟨n, h1, h2⟩, nc_it ⟨n, h1, h2⟩, cp n h1 h2, z1, z2]; omega
  have rz : ¬ (∃ n d c, udA R p n d c ∧ roP (R.Q.G n) n (udL R n c).length) → ((3 + nc_i (∃ n d c, udA R p n d c ∧ roP (R.Q.G n) n (udL R n c).length) (dC1 R p.toNatClampNeg (uC R p.toNatClampNeg))) + pCr R k2 ≤ pCr R k2 + 500 ∧ (18 + nc_i (∃ n d c, udA R p n d c ∧ roP (R.Q.G n) n (udL R n c).length) (dC2 R p.toNatClampNeg (uC R p.toNatClampNeg))) + pZr R k2 ≤ pZr R k2 + 4000) := fun w => by
    rw [nc_in w, nc_in w]; omega
  rcases hc with ⟨h0, n, e, G1, T1, h1, h2, h3, h4, h5, h6, rfl⟩ | ⟨h0, h1, rfl⟩ | ⟨h0, ⟨n, h1, h2, h3⟩, rfl⟩ | ⟨h0, ⟨n, e, h1, h2, h3, h4⟩, rfl⟩ <;> rcases hr with ⟨g0, n', d, c', G2, T2, ga, g4, g5, g6, rfl⟩ | ⟨g0, g1, rfl⟩ | ⟨g0, ⟨n', g1, g2, g3⟩, rfl⟩ | ⟨g0, ⟨n', d, c', ga, g4⟩, rfl⟩
  ·
    obtain ⟨g1, g2, g3, g9⟩ := id ga
    have e1 := nI_ij h2 g2 (by omega) (by omega)
    subst e1
    obtain ⟨l1, l2, l3, l4⟩ := hI.last h1 h3 g3 g9
    obtain ⟨u1, u2⟩ := ud_uq (hI.2.2.2.1 n h1).1 h1 l4 l1 l2 l3
    have uc := ga.uc
    rw [uE] at g4 g5 g6 uc
    rw [eG, eT] at g6
    obtain ⟨rfl, rfl⟩ := u2 h6 g6
    obtain ⟨M, m1, m2⟩ := g6.run
    rw [uM_len, ← u1] at m1
    have hg := (hI.2.2.2.1 n h1).1
    obtain ⟨r1, r2, r3, r4⟩ := m2.pot (fun _ => l4) hg
    rw [m1] at r1 r2 r3 r4
    obtain ⟨w1, w2⟩ := pc_pe (kz := kz) (T' := T1) (E' := (Q.E n).dropLast) (v := kz (30 + n)) (e := 0) h1 r1 r2 rfl
    rw [upF_id] at w1 w2
    obtain ⟨w3, w4⟩ := pr_pe (k2 := k2) (T' := T1) (K := R.Q.Kn n) (C := (R.C n).dropLast) (R := R) h1 (by rw [eG]; exact r3) (by rw [eG]; exact r4)
    refine ⟨by omega, fun _ => by rw [g5, h5, u1], hI.und h1 l4 g6, ⟨?_, ?_⟩, ⟨?_, ?_⟩⟩
    · obtain ⟨e1, -⟩ := unC_some h3
      rw [nc_it ⟨n, h1, h2⟩, cp n h1 h2, e1, nc_t h4, w1]; omega
    · obtain ⟨-, e1⟩ := unC_some h3
      rw [nc_it ⟨n, h1, h2⟩, cp n h1 h2, e1, nc_t h4, w2]; omega
    · rw [nc_it ⟨n, d, c', ga, by rw [uE]; exact g4⟩, cp n h1 h2, uc, ← u1, w3]
      unfold dC1
      rw [eG]; omega
    · rw [nc_it ⟨n, d, c', ga, by rw [uE]; exact g4⟩, cp n h1 h2, uc, ← u1, w4]
      unfold dC2
      rw [eG]; omega
  · exact (np_no g1 h1 h2).elim
  · have e1 := nI_ij h2 g2 (by omega) (by omega)
    subst e1
    exact (el h1 h3 g3).elim
  ·
    obtain ⟨g1, g2, g3, g9⟩ := id ga
    have e1 := nI_ij h2 g2 (by omega) (by omega)
    subst e1
    obtain ⟨l1, l2, l3, l4⟩ := hI.last h1 h3 g3 g9
    obtain ⟨u1, u2⟩ := ud_uq (hI.2.2.2.1 n h1).1 h1 l4 l1 l2 l3
    rw [uE, eG, ← u1] at g4
    exact absurd h4 g4
  · exact (np_no h1 ga.1 ga.2.1).elim
  · refine ⟨by omega, fun q => by omega, hI, ⟨?_, ?_⟩, rz (fun ⟨n, d, c', q, _⟩ => np_no h1 q.1 q.2.1)⟩
    · rw [nc_in (fun ⟨n, q1, q2⟩ => np_no h1 q1 q2)]; omega
    · rw [nc_in (fun ⟨n, q1, q2⟩ => np_no h1 q1 q2)]; omega
  · exact (np_no h1 g1 g2).elim
  · exact (np_no h1 ga.1 ga.2.1).elim
  · have e1 := nI_ij h2 ga.2.1 (by omega) (by have := ga.1; omega)
    subst e1
    exact (el2 h1 h3 ga.2.2.1).elim
  · exact (np_no g1 h1 h2).elim
  · obtain ⟨z1, z2⟩ := un_z h3
    refine ⟨by omega, fun q => by omega, hI, cz n h1 h2 z1 z2, rz (fun ⟨n9, d, c', q, _⟩ => ?_)⟩
    have e1 := nI_ij h2 q.2.1 (by omega) (by have := q.1; omega)
    subst e1
    exact el2 h1 h3 q.2.2.1
  · have e1 := nI_ij h2 ga.2.1 (by omega) (by have := ga.1; omega)
    subst e1
    exact (el2 h1 h3 ga.2.2.1).elim
  ·
    obtain ⟨g1, g2, g3, g9⟩ := id ga
    have e1 := nI_ij h2 g2 (by omega) (by omega)
    subst e1
    obtain ⟨l1, l2, l3, l4⟩ := hI.last h1 h3 g3 g9
    obtain ⟨u1, u2⟩ := ud_uq (hI.2.2.2.1 n h1).1 h1 l4 l1 l2 l3
    rw [uE, eG, ← u1] at g4
    exact absurd g4 h4
  · exact (np_no g1 h1 h2).elim
  · have e1 := nI_ij h2 g2 (by omega) (by omega)
    subst e1
    exact (el h1 h3 g3).elim
  ·
    obtain ⟨g1, g2, g3, g9⟩ := id ga
    have e1 := nI_ij h2 g2 (by omega) (by omega)
    subst e1
    obtain ⟨l1, l2, l3, l4⟩ := hI.last h1 h3 g3 g9
    obtain ⟨u1, u2⟩ := ud_uq (hI.2.2.2.1 n h1).1 h1 l4 l1 l2 l3
    obtain ⟨e1, e2⟩ := unC_some h3
    rw [nc_f h4] at e1 e2
    refine ⟨by omega, fun q => by omega, hI, cz n h1 h2 e1 e2, rz (fun ⟨n9, d9, c9, q, q2⟩ => ?_)⟩
    have e1 := nI_ij h2 q.2.1 (by omega) (by have := q.1; omega)
    subst e1
    have e9 : udL R1 n c9 = udL R1 n c' := by
      have : d9 = d := by have := q.2.2.1; omega
      subst this
      have := q.2.2.2
      rw [g9] at this
      injection this with this
      rw [this]
    rw [e9] at q2
    exact g4 q2
end UDL
set_option maxRecDepth 100000 in
set_option maxHeartbeats 2000000 in
theorem lwc_un {r k : Nat} {A : List Int32} {lo : List (Nat × MV)} {st : List MV} {S1 : MM} {cs sl : Nat} (h : I_lc r A k lo st S1 cs sl) : GoL k r A 464 lo st S1 cs sl := by
  obtain ⟨jn, t, m, o, F, X, kz, Q, z, Y, R, k2, hk, hj, hA, ⟨hL, hI, hK, hcs, hsl⟩, rfl, rfl⟩ := h
  refine ⟨300, ?_⟩
  show (∃ v_1 : Int32, (r = r ∧ vp_in ((nI (6 * jn)) + (1 : Int32)) A.length ∧ v_1 = A.getD ((nI (6 * jn)) + (1 : Int32)).toNatClampNeg 0) ∧ (2 = 2 ∧ (∃ (F_2 : Nat → Nat × Nat) (X_3 : Nat → GX) (kz_4 : Nat → Nat) (Q_5 : Ab), ((WT S1 F_2 t X_3 kz_4 Q_5 ∧ ∀ n, n < 4 → EdW (Q_5.G n) (Q_5.T n) n (Q_5.E n)) ∧ lwO S1 F_2 o) ∧ cs + (nc_i (∃ n, n < 4 ∧ v_1 = nI n) (nc_unC Q_5 v_1.toNatClampNeg) + 2) ≤ 600128 ∧ sl + (nc_i (∃ n, n < 4 ∧ v_1 = nI n) (nc_unZ Q_5 v_1.toNatClampNeg) + 12) ≤ 7301098 ∧ (∀ (x_7 : Int32) (S_6 : MM), ((x_7 = 0 ∧ ∃ (v0 : Int32) (S0 : MM), (∃ (n : Nat) (e : Nat × Nat) (Q1 : Ab) (X1 : Nat → GX), n < 4 ∧ v_1 = nI n ∧ (Q_5.E n).getLast? = some e ∧ roP (Q_5.G n) n (cuN (Q_5.G n) e.1 e.2) ∧ v0 = nI (cuN (Q_5.G n) e.1 e.2) ∧ undR Q_5 X_3 n e Q1 X1 ∧ wtQ S1 S0 F_2 t X1 kz_4 Q1) ∧ S_6 = loJ S0 o v0.toInt64) ∨ (x_7 = 1 ∧ S_6 = S1 ∧ (np 4 v_1)) ∨ (x_7 = 2 ∧ S_6 = S1 ∧ (∃ n, n < 4 ∧ v_1 = nI n ∧ Q_5.E n = [])) ∨ (x_7 = 3 ∧ S_6 = S1 ∧ (∃ (n : Nat) (e : Nat × Nat), n < 4 ∧ v_1 = nI n ∧ (Q_5.E n).getLast? = some e ∧ ¬ roP (Q_5.G n) n (cuN (Q_5.G n) e.1 e.2)))) → (∃ v_8 : Int32, (r = r ∧ vp_in ((nI (6 * jn)) + (1 : Int32)) A.length ∧ v_8 = A.getD ((nI (6 * jn)) + (1 : Int32)).toNatClampNeg 0) ∧ (0 = 0 ∧ (∃ (F_9 : Nat → Nat × Nat) (z_10 : Nat → Nat) (Y_11 : Nat → Nat → Nat) (R_12 : Rb) (kz_13 : Nat → Nat), (MD S_6 F_9 m z_10 Y_11 R_12 kz_13 ∧ AbC R_12 ∧ UcP R_12) ∧ cs + (nc_i (∃ n, n < 4 ∧ v_1 = nI n) (nc_unC Q_5 v_1.toNatClampNeg) + 2) + (3 + nc_i (∃ n d c, udA R_12 v_8 n d c ∧ roP (R_12.Q.G n) n (udL R_12 n c).length) (dC1 R_12 v_8.toNatClampNeg (uC R_12 v_8.toNatClampNeg))) ≤ 600128 ∧ sl + (nc_i (∃ n, n < 4 ∧ v_1 = nI n) (nc_unZ Q_5 v_1.toNatClampNeg) + 12) + (18 + nc_i (∃ n d c, udA R_12 v_8 n d c ∧ roP (R_12.Q.G n) n (udL R_12 n c).length) (dC2 R_12 v_8.toNatClampNeg (uC R_12 v_8.toNatClampNeg))) ≤ 7301098 ∧ (∀ (x_15 : Int32) (S_14 : MM), (rudW S_6 S_14 F_9 m R_12 kz_13 v_8 x_15 ∨ (np 4 v_8 ∧ x_15 = 0 ∧ mdW S_6 S_14 F_9 m R_12 kz_13 1) ∨ ((∃ n, n < 4 ∧ v_8 = nI n ∧ R_12.C n = []) ∧ x_15 = 0 ∧ mdW S_6 S_14 F_9 m R_12 kz_13 2) ∨ ((∃ n d c, udA R_12 v_8 n d c ∧ ¬ roP (R_12.Q.G n) n (udL R_12 n c).length) ∧ x_15 = 0 ∧ mdW S_6 S_14 F_9 m R_12 kz_13 3)) → (0 = 0 ∧ (∃ (v9_16 : Int32), (isO S_14 15 m ∧ mI S_14 1551 m = v9_16) ∧ cs + (nc_i (∃ n, n < 4 ∧ v_1 = nI n) (nc_unC Q_5 v_1.toNatClampNeg) + 2) + (3 + nc_i (∃ n d c, udA R_12 v_8 n d c ∧ roP (R_12.Q.G n) n (udL R_12 n c).length) (dC1 R_12 v_8.toNatClampNeg (uC R_12 v_8.toNatClampNeg))) ≤ 600128 ∧ sl + (nc_i (∃ n, n < 4 ∧ v_1 = nI n) (nc_unZ Q_5 v_1.toNatClampNeg) + 12) + (18 + nc_i (∃ n d c, udA R_12 v_8 n d c ∧ roP (R_12.Q.G n) n (udL R_12 n c).length) (dC2 R_12 v_8.toNatClampNeg (uC R_12 v_8.toNatClampNeg))) ≤ 7301098 ∧ (((v9_16 = x_7 → ((¬ x_7 = 0 → (∃ k1, k1 < k ∧ I_nx r A k1 [(0, .inr (.inr (some r))), (1, .inr (.inr (some t))), (2, .inr (.inr (some m))), (3, .inr (.inr (some o))), (4, .inl (nI (6 * jn)))] [] S_14 (cs + (nc_i (∃ n, n < 4 ∧ v_1 = nI n) (nc_unC Q_5 v_1.toNatClampNeg) + 2) + (3 + nc_i (∃ n d c, udA R_12 v_8 n d c ∧ roP (R_12.Q.G n) n (udL R_12 n c).length) (dC1 R_12 v_8.toNatClampNeg (uC R_12 v_8.toNatClampNeg)))) (sl + (nc_i (∃ n, n < 4 ∧ v_1 = nI n) (nc_unZ Q_5 v_1.toNatClampNeg) + 12) + (18 + nc_i (∃ n d c, udA R_12 v_8 n d c ∧ roP (R_12.Q.G n) n (udL R_12 n c).length) (dC2 R_12 v_8.toNatClampNeg (uC R_12 v_8.toNatClampNeg)))))) ∧ (x_7 = 0 → (isO S_14 18 o ∧ inR S_14 o (0 : Int32) ∧ (((lg_cmp (eJ S_14 o (0 : Int32).toNatClampNeg) x_15.toInt64) = 0 → (∃ k1, k1 < k ∧ I_nx r A k1 [(0, .inr (.inr (some r))), (1, .inr (.inr (some t))), (2, .inr (.inr (some m))), (3, .inr (.inr (some o))), (4, .inl (nI (6 * jn)))] [] S_14 (cs + (nc_i (∃ n, n < 4 ∧ v_1 = nI n) (nc_unC Q_5 v_1.toNatClampNeg) + 2) + (3 + nc_i (∃ n d c, udA R_12 v_8 n d c ∧ roP (R_12.Q.G n) n (udL R_12 n c).length) (dC1 R_12 v_8.toNatClampNeg (uC R_12 v_8.toNatClampNeg)))) (sl + (nc_i (∃ n, n < 4 ∧ v_1 = nI n) (nc_unZ Q_5 v_1.toNatClampNeg) + 12) + (18 + nc_i (∃ n d c, udA R_12 v_8 n d c ∧ roP (R_12.Q.G n) n (udL R_12 n c).length) (dC2 R_12 v_8.toNatClampNeg (uC R_12 v_8.toNatClampNeg)))))) ∧ (¬ (lg_cmp (eJ S_14 o (0 : Int32).toNatClampNeg) x_15.toInt64) = 0 → (([] : List MV) = [] ∧ retL (some (.inl (0 : Int32))) S_14 (cs + (nc_i (∃ n, n < 4 ∧ v_1 = nI n) (nc_unC Q_5 v_1.toNatClampNeg) + 2) + (3 + nc_i (∃ n d c, udA R_12 v_8 n d c ∧ roP (R_12.Q.G n) n (udL R_12 n c).length) (dC1 R_12 v_8.toNatClampNeg (uC R_12 v_8.toNatClampNeg)))) (sl + (nc_i (∃ n, n < 4 ∧ v_1 = nI n) (nc_unZ Q_5 v_1.toNatClampNeg) + 12) + (18 + nc_i (∃ n d c, udA R_12 v_8 n d c ∧ roP (R_12.Q.G n) n (udL R_12 n c).length) (dC2 R_12 v_8.toNatClampNeg (uC R_12 v_8.toNatClampNeg))))))))))) ∧ (¬ v9_16 = x_7 → (([] : List MV) = [] ∧ retL (some (.inl (0 : Int32))) S_14 (cs + (nc_i (∃ n, n < 4 ∧ v_1 = nI n) (nc_unC Q_5 v_1.toNatClampNeg) + 2) + (3 + nc_i (∃ n d c, udA R_12 v_8 n d c ∧ roP (R_12.Q.G n) n (udL R_12 n c).length) (dC1 R_12 v_8.toNatClampNeg (uC R_12 v_8.toNatClampNeg)))) (sl + (nc_i (∃ n, n < 4 ∧ v_1 = nI n) (nc_unZ Q_5 v_1.toNatClampNeg) + 12) + (18 + nc_i (∃ n d c, udA R_12 v_8 n d c ∧ roP (R_12.Q.G n) n (udL R_12 n c).length) (dC2 R_12 v_8.toNatClampNeg (uC R_12 v_8.toNatClampNeg))))))))))))))))))
  obtain ⟨rc, rs⟩ := room_le hL.1 hI hK (show jn ≤ 64 by omega) hcs hsl
  have hB : BdQ Q := hI.1.bd hL.2.1.bd
  obtain ⟨eG, eT, eK, etp, esl, eft, efo, emp, evw, ehu, eap, ean⟩ := id hI.1
  have gok : ∀ p, p < 4 → (Q.G p).ok := fun p hp => (hI.2.2.2.1 p hp).1.1
  have hb := kzB.of hL.1 hK
  have hpl := pot_le hL.1 hI hK
  have cp : ∀ n, n < 4 → (A.getD (6 * jn + 1) 0) = nI n → (A.getD (6 * jn + 1) 0).toNatClampNeg = n := fun n h1 h2 => by rw [h2]; exact nI_clamp (by omega)
  have pre : (nc_i (∃ n, n < 4 ∧ (A.getD (6 * jn + 1) 0) = nI n) (nc_unC Q (A.getD (6 * jn + 1) 0).toNatClampNeg) + 2) + pCc Q kz ≤ 295540 ∧ (nc_i (∃ n, n < 4 ∧ (A.getD (6 * jn + 1) 0) = nI n) (nc_unZ Q (A.getD (6 * jn + 1) 0).toNatClampNeg) + 12) + pZc Q kz ≤ 4266944 := by
    by_cases w : ∃ n, n < 4 ∧ (A.getD (6 * jn + 1) 0) = nI n
    · obtain ⟨n, n1, n2⟩ := id w
      rw [nc_it w, nc_it w, cp n n1 n2]
      have := un_b hI hK hb n1
      omega
    · rw [nc_in w, nc_in w]; omega
  have rpre : (3 + nc_i (∃ n d c, udA R (A.getD (6 * jn + 1) 0) n d c ∧ roP (R.Q.G n) n (udL R n c).length) (dC1 R (A.getD (6 * jn + 1) 0).toNatClampNeg (uC R (A.getD (6 * jn + 1) 0).toNatClampNeg))) + pCr R k2 ≤ 213492 ∧ (18 + nc_i (∃ n d c, udA R (A.getD (6 * jn + 1) 0) n d c ∧ roP (R.Q.G n) n (udL R n c).length) (dC2 R (A.getD (6 * jn + 1) 0).toNatClampNeg (uC R (A.getD (6 * jn + 1) 0).toNatClampNeg))) + pZr R k2 ≤ 1085344 := by
    by_cases w : ∃ n d c, udA R (A.getD (6 * jn + 1) 0) n d c ∧ roP (R.Q.G n) n (udL R n c).length
    · obtain ⟨n, d, c', n1, n2⟩ := id w
      rw [nc_it w, nc_it w, cp n n1.1 n1.2.1, n1.uc]
      have := or_b hI hK n1.1 n2
      omega
    · rw [nc_in w, nc_in w]; omega
  have fit := fit_x hI hK (show jn ≤ 63 by omega) hcs hsl pre.1 pre.2
  have fr := fit_y (show jn ≤ 63 by omega) hcs hsl pre.1 pre.2 rpre.1 rpre.2
  refine ⟨_, hL.rd (k := 1) (by decide) (by omega) hA, rfl, F, X, kz, Q, ⟨⟨hL.1, hI.edw⟩, hL.lwo⟩, by omega, by omega, fun x9 S6 hq => ?_⟩
  have key : ∃ (c : Nat) (v : Int32) (Q1 : Ab) (X1 : Nat → GX) (F6 : Nat → Nat × Nat), x9 = nI c ∧ c < 8 ∧ ((c = 0 ∧ ∃ (n : Nat) (e : Nat × Nat) (G' : Gr) (T' : Tr), n < 4 ∧ (A.getD (6 * jn + 1) 0) = nI n ∧ (Q.E n).getLast? = some e ∧ roP (Q.G n) n (cuN (Q.G n) e.1 e.2) ∧ v = nI (cuN (Q.G n) e.1 e.2) ∧ UndR n (owN (Q.G n) n) e.1 e.2 (Q.G n) (Q.T n) G' T' ∧ Q1 = Q.sPe n G' T' (Q.E n).dropLast) ∨ (c = 1 ∧ np 4 (A.getD (6 * jn + 1) 0) ∧ Q1 = Q) ∨ (c = 2 ∧ (∃ n, n < 4 ∧ (A.getD (6 * jn + 1) 0) = nI n ∧ Q.E n = []) ∧ Q1 = Q) ∨ (c = 3 ∧ (∃ (n : Nat) (e : Nat × Nat), n < 4 ∧ (A.getD (6 * jn + 1) 0) = nI n ∧ (Q.E n).getLast? = some e ∧ ¬ roP (Q.G n) n (cuN (Q.G n) e.1 e.2)) ∧ Q1 = Q)) ∧ Lw S6 F6 t m o r A X1 kz Q1 z Y R k2 ∧ (x9 = 0 → eJ S6 o 0 = v.toInt64) := by
    rcases hq with ⟨rfl, v0, S0, ⟨n, e, Q1, X1, q0, q1, q2, q3, q4, ⟨G', T', X', i1, rfl, rfl⟩, gW⟩, rfl⟩ | ⟨rfl, rfl, h1⟩ | ⟨rfl, rfl, h1⟩ | ⟨rfl, rfl, h1⟩
    · obtain ⟨F6, g1, g2⟩ := hL.ok (v := v0.toInt64) gW
      exact ⟨0, v0, _, _, F6, rfl, by decide, Or.inl ⟨rfl, n, e, G', T', q0, q1, q2, q3, q4, i1, rfl⟩, g1, fun _ => g2⟩
    · exact ⟨1, 0, Q, X, F, rfl, by decide, Or.inr (Or.inl ⟨rfl, h1, rfl⟩), hL, fun w => absurd w (by decide)⟩
    · exact ⟨2, 0, Q, X, F, rfl, by decide, Or.inr (Or.inr (Or.inl ⟨rfl, h1, rfl⟩)), hL, fun w => absurd w (by decide)⟩
    · exact ⟨3, 0, Q, X, F, rfl, by decide, Or.inr (Or.inr (Or.inr ⟨rfl, h1, rfl⟩)), hL, fun w => absurd w (by decide)⟩
  obtain ⟨c, v, Q1, X1, F6, hx, hc8, hc, hL6, hv⟩ := key
  refine ⟨_, hL6.rd (k := 1) (by decide) (by omega) hA, rfl, F6, z, Y, R, k2, ⟨hL6.2.1, hI.abc, hI.ucp⟩, by omega, by omega, fun v9 S9 hr => ?_⟩
  have key2 : ∃ (th : Nat) (R1 : Rb), ((th = 0 ∧ ∃ (n d : Nat) (c : Bool × Nat × Nat) (G' : Gr) (T' : Tr), udA R (A.getD (6 * jn + 1) 0) n d c ∧ roP (R.Q.G n) n (udL R n c).length ∧ v9 = nI (udL R n c).length ∧ RuR n (owN (R.Q.G n) n) c.1 (uM c.1 (udL R n c)) (R.Q.G n) (R.Q.T n) G' T' ∧ R1 = R.sP n G' T' (R.Q.Kn n) (R.C n).dropLast) ∨ (th = 1 ∧ np 4 (A.getD (6 * jn + 1) 0) ∧ R1 = R) ∨ (th = 2 ∧ (∃ n, n < 4 ∧ (A.getD (6 * jn + 1) 0) = nI n ∧ R.C n = []) ∧ R1 = R) ∨ (th = 3 ∧ (∃ n d c, udA R (A.getD (6 * jn + 1) 0) n d c ∧ ¬ roP (R.Q.G n) n (udL R n c).length) ∧ R1 = R)) ∧ mdW S6 S9 F6 m R1 k2 th := by
    rcases hr with ⟨n, d, c', G', T', q0, q1, q2, q4, gW⟩ | ⟨h1, q1, gW⟩ | ⟨h1, q1, gW⟩ | ⟨h1, q1, gW⟩
    · exact ⟨0, _, Or.inl ⟨rfl, n, d, c', G', T', q0, q1, q2, q4, rfl⟩, gW⟩
    · exact ⟨1, R, Or.inr (Or.inl ⟨rfl, h1, rfl⟩), gW⟩
    · exact ⟨2, R, Or.inr (Or.inr (Or.inl ⟨rfl, h1, rfl⟩)), gW⟩
    · exact ⟨3, R, Or.inr (Or.inr (Or.inr ⟨rfl, h1, rfl⟩)), gW⟩
  obtain ⟨th, R1, hr, hw⟩ := key2
  obtain ⟨F9, z9, Y9, hL9, hth, -, hj9⟩ := hL6.ref hw
  obtain ⟨a1, a2, hI1, ⟨p1, p2⟩, ⟨r1, r2⟩⟩ := ag_und (kz := kz) (k2 := k2) hI hc hr
  refine lw_cmp hL9 (by rw [hth, a1, ← hx]) (fun w => ?_) (by omega) (by omega) (nx_k hk hj hA hL9 hI1 hK hcs hsl p1 p2 r1 r2 (by omega) (by omega))
  rw [hj9, hv w, a2 (nI_z hc8 (hx.symm.trans w))]
