/-! ===== The law: send ===== -/
theorem WT.kp2 {S : MM} {F : Nat → Nat × Nat} {t : Nat} {X : Nat → GX} {kz : Nat → Nat} {Q : Ab} (h : WT S F t X kz Q) : (∃ k, k ≤ 9 ∧ kz 1 = 64 * 2 ^ k) ∧ (∀ i, i < 6 → ∃ k, k ≤ 9 ∧ kz (40 + i) = 64 * 2 ^ k) := by
  obtain ⟨z, h1, h2, -, ⟨d1, B1, b1⟩, h5, ⟨pl, me, a, d, V, cap, w1, w2, w3⟩, -⟩ := h
  refine ⟨?_, fun i hi => ?_⟩
  · have := b1.1.2.2.2.2.2.1
    rw [b1.2.2.2] at this
    exact this
  · have wc := w1.2.2.2.2.2.2.2.2.2.1
    have := (wc i hi).1.2.2.2.2.2.1
    rw [w2 i hi] at this
    exact this
theorem sm6 (f : Nat → Nat) : smN f 6 = f 0 + f 1 + f 2 + f 3 + f 4 + f 5 := by
  show 0 + f 0 + f 1 + f 2 + f 3 + f 4 + f 5 = _
  omega
theorem gaR_len (G : Gr) (Kn : Nat → Nat → Nat) (o : Option Nat) : (gaR G Kn o V0).length ≤ 32768 := by
  unfold gaR
  rw [bPuts_len (Nat.zero_le _)]
  exact Nat.min_le_right _ _
theorem kzB.v1 {kz : Nat → Nat} (h : kzB kz) {v : Nat} (hv : v ≤ 32768) : kzB (upF kz 1 v) := by
  obtain ⟨h0, h1, h2, h3, h4, h5, h6, h7⟩ := h
  exact ⟨by rw [upF_o (by decide)]; exact h0, by rw [upF_s]; exact hv, fun k hk => by rw [upF_o (by omega)]; exact h2 k hk, fun k hk => by rw [upF_o (by omega)]; exact h3 k hk, by rw [upF_o (by decide)]; exact h4, by rw [upF_o (by decide)]; exact h5, fun k hk => by rw [upF_o (by omega)]; exact h6 k hk, by rw [upF_o (by decide)]; exact h7⟩
theorem pc_1 (Q : Ab) (kz : Nat → Nat) (v : Nat) : pCc Q (upF kz 1 v) = pCc Q kz ∧ pZc Q (upF kz 1 v) + 2 * kz 1 = pZc Q kz + 2 * v := by
  have a1 : smN (fun k => upF kz 1 v (20 + k)) 8 = smN (fun k => kz (20 + k)) 8 := smN_cg (fun u _ => upF_o (by omega))
  have a2 : smN (fun k => upF kz 1 v (30 + k)) 4 = smN (fun k => kz (30 + k)) 4 := smN_cg (fun u _ => upF_o (by omega))
  have a3 : smN (fun k => upF kz 1 v (40 + k)) 6 = smN (fun k => kz (40 + k)) 6 := smN_cg (fun u _ => upF_o (by omega))
  unfold pCc pZc
  rw [a1, a2, a3, upF_s, upF_o (show 10 ≠ 1 by decide), upF_o (show 12 ≠ 1 by decide), upF_o (show 0 ≠ 1 by decide), upF_o (show 50 ≠ 1 by decide)]
  omega
section SDK
variable {Q : Ab} {kz k2 : Nat → Nat} {G : Gr} {Kn : Nat → Nat → Nat} {o : Option Nat}
theorem sdK_o {k : Nat} (h1 : k ≠ 50) (h2 : k < 40 ∨ 46 ≤ k) : sdK kz G Kn o k = kz k := by
  unfold sdK
  rw [if_neg h1, if_neg (by omega)]
theorem sdK_c {k : Nat} (h1 : k < 6) : sdK kz G Kn o (40 + k) = capN (paF G Kn o k).length (kz (40 + k)) 0 := by
  unfold sdK
  rw [if_neg (by omega), if_pos (by omega), Nat.add_sub_cancel_left]
theorem pc_sd (hk : ∀ i, i < 6 → ∃ k, k ≤ 9 ∧ kz (40 + i) = 64 * 2 ^ k) (h5 : kz 50 ≤ 32768) : pCc Q (sdK kz G Kn o) = pCc Q kz ∧ sdZ kz G Kn o + pZc Q kz ≤ pZc Q (sdK kz G Kn o) ∧ sdC kz G Kn o ≤ 55 ∧ (∀ i, i < 6 → ∃ k, k ≤ 9 ∧ sdK kz G Kn o (40 + i) = 64 * 2 ^ k) ∧ sdK kz G Kn o 50 ≤ 32768 := by
  have e50 : sdK kz G Kn o 50 = odN (kz 50) (gaR G Kn o V0).length := by unfold sdK; rw [if_pos rfl]
  obtain ⟨o1, o2, o3⟩ := od_z h5 (gaR_len G Kn o)
  have cb : ∀ i, i < 6 → ∃ k, k ≤ 9 ∧ sdK kz G Kn o (40 + i) = 64 * 2 ^ k := fun i hi => by
    rw [sdK_c hi]
    exact capN_b (hk i hi) _
  have c9 : ∀ i, i < 6 → addNC (paF G Kn o i).length (kz (40 + i)) 0 ≤ 9 := fun i hi => by
    refine addNC_9 (pw_le (hk i hi)).1 ?_
    rw [← sdK_c hi]
    exact (pw_le (cb i hi)).2.1
  have n0 : addNC (paF G Kn o 0).length (kz 40) 0 ≤ 9 := c9 0 (by decide)
  have n1 : addNC (paF G Kn o 1).length (kz 41) 0 ≤ 9 := c9 1 (by decide)
  have n2 : addNC (paF G Kn o 2).length (kz 42) 0 ≤ 9 := c9 2 (by decide)
  have n3 : addNC (paF G Kn o 3).length (kz 43) 0 ≤ 9 := c9 3 (by decide)
  have n4 : addNC (paF G Kn o 4).length (kz 44) 0 ≤ 9 := c9 4 (by decide)
  have n5 : addNC (paF G Kn o 5).length (kz 45) 0 ≤ 9 := c9 5 (by decide)
  have s0 : addNS (paF G Kn o 0).length (kz 40) 0 + 2 * kz 40 = 2 * sdK kz G Kn o 40 := by rw [show sdK kz G Kn o 40 = _ from sdK_c (k := 0) (by decide)]; exact addNS_eq _
  have s1 : addNS (paF G Kn o 1).length (kz 41) 0 + 2 * kz 41 = 2 * sdK kz G Kn o 41 := by rw [show sdK kz G Kn o 41 = _ from sdK_c (k := 1) (by decide)]; exact addNS_eq _
  have s2 : addNS (paF G Kn o 2).length (kz 42) 0 + 2 * kz 42 = 2 * sdK kz G Kn o 42 := by rw [show sdK kz G Kn o 42 = _ from sdK_c (k := 2) (by decide)]; exact addNS_eq _
  have s3 : addNS (paF G Kn o 3).length (kz 43) 0 + 2 * kz 43 = 2 * sdK kz G Kn o 43 := by rw [show sdK kz G Kn o 43 = _ from sdK_c (k := 3) (by decide)]; exact addNS_eq _
  have s4 : addNS (paF G Kn o 4).length (kz 44) 0 + 2 * kz 44 = 2 * sdK kz G Kn o 44 := by rw [show sdK kz G Kn o 44 = _ from sdK_c (k := 4) (by decide)]; exact addNS_eq _
  have s5 : addNS (paF G Kn o 5).length (kz 45) 0 + 2 * kz 45 = 2 * sdK kz G Kn o 45 := by rw [show sdK kz G Kn o 45 = _ from sdK_c (k := 5) (by decide)]; exact addNS_eq _
  have a0 : sdK kz G Kn o 0 = kz 0 := sdK_o (by decide) (by decide)
  have a1 : sdK kz G Kn o 1 = kz 1 := sdK_o (by decide) (by decide)
  have a10 : sdK kz G Kn o 10 = kz 10 := sdK_o (by decide) (by decide)
  have a12 : sdK kz G Kn o 12 = kz 12 := sdK_o (by decide) (by decide)
  have b2 : smN (fun k => sdK kz G Kn o (20 + k)) 8 = smN (fun k => kz (20 + k)) 8 := smN_cg (fun u hu => sdK_o (by omega) (by omega))
  have b3 : smN (fun k => sdK kz G Kn o (30 + k)) 4 = smN (fun k => kz (30 + k)) 4 := smN_cg (fun u hu => sdK_o (by omega) (by omega))
  have b4 : smN (fun k => sdK kz G Kn o (40 + k)) 6 = sdK kz G Kn o 40 + sdK kz G Kn o 41 + sdK kz G Kn o 42 + sdK kz G Kn o 43 + sdK kz G Kn o 44 + sdK kz G Kn o 45 := sm6 _
  have b5 : smN (fun k => kz (40 + k)) 6 = kz 40 + kz 41 + kz 42 + kz 43 + kz 44 + kz 45 := sm6 _
  refine ⟨?_, ?_, ?_, cb, by rw [e50]; exact o3⟩
  · unfold pCc
    rw [a10, a12, b3]
  · unfold pZc sdZ
    rw [a0, a1, a10, a12, b2, b3, b4, b5, e50]
    omega
  · unfold sdC
    omega
theorem LIk.sd (h : LIk kz k2) : LIk (sdK kz G Kn o) k2 := by
  have e50 : sdK kz G Kn o 50 = odN (kz 50) (gaR G Kn o V0).length := by unfold sdK; rw [if_pos rfl]
  obtain ⟨h1, h2, h3, h4⟩ := h
  refine ⟨?_, fun p hp => ?_, ?_, h4⟩
  · rw [sdK_o (by decide) (by decide)]; exact h1
  · rw [sdK_o (by omega) (by omega)]; exact h2 p hp
  · rw [e50]; exact (od_z h3 (gaR_len G Kn o)).2.2
theorem kzB.sd (Q : Ab) (h : kzB kz) (hk : ∀ i, i < 6 → ∃ k, k ≤ 9 ∧ kz (40 + i) = 64 * 2 ^ k) : kzB (sdK kz G Kn o) := by
  obtain ⟨h0, h1, h2, h3, h4, h5, h6, h7⟩ := h
  obtain ⟨-, -, -, w4, w5⟩ := pc_sd (Q := Q) (G := G) (Kn := Kn) (o := o) hk h7
  exact ⟨by rw [sdK_o (by decide) (by decide)]; exact h0, by rw [sdK_o (by decide) (by decide)]; exact h1, fun k hk => by rw [sdK_o (by omega) (by omega)]; exact h2 k hk, fun k hk => (pw_le (w4 k hk)).2.1, by rw [sdK_o (by decide) (by decide)]; exact h4, by rw [sdK_o (by decide) (by decide)]; exact h5, fun k hk => by rw [sdK_o (by omega) (by omega)]; exact h6 k hk, w5⟩
end SDK
theorem stI_lo (o : Option Nat) : stI o = loI o := by cases o <;> rfl
theorem rmA_ne (V : Nat → List Int32) (p : Nat) : rmA V p ≠ [] := fun h => by
  have := congrArg List.length h
  unfold rmA at this
  rw [List.length_append, List.length_map, List.length_range] at this
  have : (rmB V p 5).length + 4 = 0 := this
  omega
theorem ag_snd {Q Q1 : Ab} {R R1 : Rb} {p x s v v' : Int32} {c th : Nat} (hI : LIv Q R) (hc : ((c = 0 ∧ ∃ n i o, n < 4 ∧ p = nI n ∧ toO x o ∧ i < 8 ∧ s = nI i ∧ paT (Q.G n) (Q.Kn n) o ≤ 32768 ∧ v = nI (bPuts [] (coA (paF (Q.G n) (Q.Kn n) o) p)).length ∧ Q1 = Q.sSl (upF Q.sl i (bPuts [] (coA (paF (Q.G n) (Q.Kn n) o) p)))) ∨ (c = 1 ∧ (np 4 p ∨ (¬ ∃ o, toO x o) ∨ np 8 s) ∧ Q1 = Q) ∨ (c = 2 ∧ (∃ n i o, n < 4 ∧ p = nI n ∧ toO x o ∧ i < 8 ∧ s = nI i ∧ 32768 < paT (Q.G n) (Q.Kn n) o) ∧ Q1 = Q))) (hr : ((th = 0 ∧ ∃ n o i, n < 4 ∧ p = nI n ∧ (∀ q, o = some q → q < 4) ∧ x = stI o ∧ i < 8 ∧ s = nI i ∧ (rmB (wpF R n o) n 5).length + 4 ≤ 32768 ∧ v' = nI (rmA (wpF R n o) n).length ∧ R1 = kpR R i (rmA (wpF R n o) n)) ∨ (th = 1 ∧ (np 4 p ∨ (x ≠ -1 ∧ np 4 x) ∨ np 8 s) ∧ R1 = R) ∨ (th = 2 ∧ (∃ n o i, n < 4 ∧ p = nI n ∧ (∀ q, o = some q → q < 4) ∧ x = stI o ∧ i < 8 ∧ s = nI i ∧ 32768 < (rmB (wpF R n o) n 5).length + 4) ∧ R1 = R))) : th = c ∧ (c = 0 → v' = v) ∧ LIv Q1 R1 := by
  have bad : ∀ n i o, n < 4 → p = nI n → toO x o → i < 8 → s = nI i → (np 4 p ∨ (¬ ∃ o, toO x o) ∨ np 8 s) → False := fun n i o n1 n2 n3 n4 n5 w => by
    rcases w with w | w | w
    · exact np_no w n1 n2
    · exact w ⟨o, n3⟩
    · exact np_no w n4 n5
  have badR : ∀ n i o, n < 4 → p = nI n → toO x o → i < 8 → s = nI i → (np 4 p ∨ (x ≠ -1 ∧ np 4 x) ∨ np 8 s) → False := fun n i o n1 n2 n3 n4 n5 w => by
    rcases w with w | ⟨w1, w2⟩ | w
    · exact np_no w n1 n2
    · cases o with
      | none => exact w1 n3.1
      | some q => exact np_no w2 (n3.2 q rfl) n3.1
    · exact np_no w n4 n5
  have uq : ∀ n i o n' i' o', n < 4 → p = nI n → toO x o → i < 8 → s = nI i → n' < 4 → p = nI n' → toO x o' → i' < 8 → s = nI i' → n = n' ∧ i = i' ∧ o = o' := fun n i o n' i' o' a1 a2 a3 a4 a5 b1 b2 b3 b4 b5 =>
    ⟨nI_ij a2 b2 (by omega) (by omega), nI_ij a5 b5 (by omega) (by omega), (toO_sd a3).symm.trans (toO_sd b3)⟩
  have tor : ∀ o, (∀ q, o = some q → q < 4) → x = stI o → toO x o := fun o a b => ⟨b.trans (stI_lo o), a⟩
  rcases hc with ⟨h0, n, i, o, h1, h2, h3, h4, h5, h6, h7, rfl⟩ | ⟨h0, h1, rfl⟩ | ⟨h0, ⟨n, i, o, h1, h2, h3, h4, h5, h6⟩, rfl⟩ <;> rcases hr with ⟨g0, n', o', i', g1, g2, ga, gb, g4, g5, g6, g7, rfl⟩ | ⟨g0, g1, rfl⟩ | ⟨g0, ⟨n', o', i', g1, g2, ga, gb, g4, g5, g6⟩, rfl⟩
  · obtain ⟨rfl, rfl, rfl⟩ := uq n i o n' i' o' h1 h2 h3 h4 h5 g1 g2 (tor o' ga gb) g4 g5
    have eb := (ag_sd (o := o) hI.1 h1).2 h6
    rw [← h2] at eb
    have ew : wpF R n o = paF (Q.G n) (Q.Kn n) o := by
      unfold wpF paF
      rw [hI.1.1, hI.1.2.2.1]
      rfl
    have li := hI.snd h1 h6 i
    rw [← ew] at li
    rw [← eb] at g7 li
    exact ⟨by omega, fun _ => by rw [g7, h7], by rw [← eb]; exact li⟩
  · exact (badR n i o h1 h2 h3 h4 h5 g1).elim
  · obtain ⟨rfl, rfl, rfl⟩ := uq n i o n' i' o' h1 h2 h3 h4 h5 g1 g2 (tor o' ga gb) g4 g5
    have := (ag_sd (o := o) hI.1 h1).1.1 h6
    omega
  · exact (bad n' i' o' g1 g2 (tor o' ga gb) g4 g5 h1).elim
  · exact ⟨by omega, fun q => by omega, hI⟩
  · exact (bad n' i' o' g1 g2 (tor o' ga gb) g4 g5 h1).elim
  · obtain ⟨rfl, rfl, rfl⟩ := uq n i o n' i' o' h1 h2 h3 h4 h5 g1 g2 (tor o' ga gb) g4 g5
    have := (ag_sd (o := o) hI.1 h1).1.2 g6
    omega
  · exact (badR n i o h1 h2 h3 h4 h5 g1).elim
  · exact ⟨by omega, fun q => by omega, hI⟩
theorem sn_g {S : MM} {F : Nat → Nat × Nat} {t : Nat} {X : Nat → GX} {kz k2 : Nat → Nat} {Q : Ab} {n i : Nat} {o : Option Nat} {p x s : Int32} (hW : WT S F t X kz Q) (hK : LIk kz k2) (hp : p.toNatClampNeg = n) (hs : s.toNatClampNeg = i) (hi : i < 8) (hx : sdO x = o) : (paT (Q.G n) (Q.Kn n) o ≤ 32768 → snC kz Q p x s + pCc Q kz ≤ pCc Q (upF (snK kz (Q.G n) (Q.Kn n) o p) (20 + i) (capN (coA (paF (Q.G n) (Q.Kn n) o) p).length (kz (20 + i)) 0)) + 75 ∧ snZ kz Q p x s + pZc Q kz ≤ pZc Q (upF (snK kz (Q.G n) (Q.Kn n) o p) (20 + i) (capN (coA (paF (Q.G n) (Q.Kn n) o) p).length (kz (20 + i)) 0)) ∧ LIk (upF (snK kz (Q.G n) (Q.Kn n) o p) (20 + i) (capN (coA (paF (Q.G n) (Q.Kn n) o) p).length (kz (20 + i)) 0)) k2 ∧ kzB (upF (snK kz (Q.G n) (Q.Kn n) o p) (20 + i) (capN (coA (paF (Q.G n) (Q.Kn n) o) p).length (kz (20 + i)) 0))) ∧ (32768 < paT (Q.G n) (Q.Kn n) o → snC kz Q p x s + pCc Q kz ≤ pCc Q (snK kz (Q.G n) (Q.Kn n) o p) + 75 ∧ snZ kz Q p x s + pZc Q kz ≤ pZc Q (snK kz (Q.G n) (Q.Kn n) o p) ∧ LIk (snK kz (Q.G n) (Q.Kn n) o p) k2 ∧ kzB (snK kz (Q.G n) (Q.Kn n) o p)) := by
  obtain ⟨w1, w2⟩ := hW.kp2
  obtain ⟨d1, d2, d3, d4, d5⟩ := pc_sd (Q := Q) (G := Q.G n) (Kn := Q.Kn n) (o := o) w2 hK.2.2.1
  obtain ⟨t1, t2, t3⟩ := pw_le (capN_b (len := 0) w1 (coA (paF (Q.G n) (Q.Kn n) o) p).length)
  have m9 := addNC_9 (n := (coA (paF (Q.G n) (Q.Kn n) o) p).length) (len := 0) (pw_le w1).1 t2
  have ms := addNS_eq (cap := kz 1) (len := 0) (coA (paF (Q.G n) (Q.Kn n) o) p).length
  have s1 : sdK kz (Q.G n) (Q.Kn n) o 1 = kz 1 := sdK_o (by decide) (by decide)
  obtain ⟨f1, f2⟩ := pc_1 Q (sdK kz (Q.G n) (Q.Kn n) o) (capN (coA (paF (Q.G n) (Q.Kn n) o) p).length (kz 1) 0)
  have eK : upF (sdK kz (Q.G n) (Q.Kn n) o) 1 (capN (coA (paF (Q.G n) (Q.Kn n) o) p).length (kz 1) 0) = snK kz (Q.G n) (Q.Kn n) o p := rfl
  rw [eK] at f1 f2
  rw [s1] at f2
  have hb : kzB (snK kz (Q.G n) (Q.Kn n) o p) := ((kzB.of hW hK).sd Q (G := Q.G n) (Kn := Q.Kn n) (o := o) w2).v1 t2
  have hl : LIk (snK kz (Q.G n) (Q.Kn n) o p) k2 := (hK.sd (G := Q.G n) (Kn := Q.Kn n) (o := o)).up (by omega)
  unfold snC snZ
  rw [hp, hs, hx]
  refine ⟨fun c => ?_, fun c => ?_⟩
  · rw [if_pos c, if_pos c]
    have w0 := hW.kp.2.1 i hi
    obtain ⟨u1, u2, u3⟩ := pw_le (capN_b (len := 0) w0 (coA (paF (Q.G n) (Q.Kn n) o) p).length)
    obtain ⟨u4, u5, u6⟩ := pw_le w0
    have n9 := addNC_9 (n := (coA (paF (Q.G n) (Q.Kn n) o) p).length) (len := 0) u4 u2
    have ns := addNS_eq (cap := kz (20 + i)) (len := 0) (coA (paF (Q.G n) (Q.Kn n) o) p).length
    have e20 : snK kz (Q.G n) (Q.Kn n) o p (20 + i) = kz (20 + i) := by
      rw [← eK, upF_o (by omega)]; exact sdK_o (by omega) (by omega)
    obtain ⟨e1, e2⟩ := pc_20 Q (snK kz (Q.G n) (Q.Kn n) o p) (v := capN (coA (paF (Q.G n) (Q.Kn n) o) p).length (kz (20 + i)) 0) hi (by rw [e20]; omega)
    rw [e20] at e2
    exact ⟨by omega, by omega, hl.up (by omega), hb.v20 hi u2⟩
  · rw [if_neg (by omega), if_neg (by omega)]
    exact ⟨by omega, by omega, hl, hb⟩
set_option maxRecDepth 100000 in
set_option maxHeartbeats 2000000 in
theorem lwc_sd {r k : Nat} {A : List Int32} {lo : List (Nat × MV)} {st : List MV} {S1 : MM} {cs sl : Nat} (h : I_lc r A k lo st S1 cs sl) : GoL k r A 1642 lo st S1 cs sl := by
  obtain ⟨jn, t, m, o, F, X, kz, Q, z, Y, R, k2, hk, hj, hA, ⟨hL, hI, hK, hcs, hsl⟩, rfl, rfl⟩ := h
  refine ⟨300, ?_⟩
  show (∃ v_1 : Int32, (r = r ∧ vp_in ((nI (6 * jn)) + (1 : Int32)) A.length ∧ v_1 = A.getD ((nI (6 * jn)) + (1 : Int32)).toNatClampNeg 0) ∧ (∃ v_2 : Int32, (r = r ∧ vp_in ((nI (6 * jn)) + (2 : Int32)) A.length ∧ v_2 = A.getD ((nI (6 * jn)) + (2 : Int32)).toNatClampNeg 0) ∧ (∃ v_3 : Int32, (r = r ∧ vp_in ((nI (6 * jn)) + (3 : Int32)) A.length ∧ v_3 = A.getD ((nI (6 * jn)) + (3 : Int32)).toNatClampNeg 0) ∧ (2 = 2 ∧ (∃ (F_4 : Nat → Nat × Nat) (X_5 : Nat → GX) (kz_6 : Nat → Nat) (Q_7 : Ab), ((WT S1 F_4 t X_5 kz_6 Q_7) ∧ lwO S1 F_4 o) ∧ cs + (nc_i (∃ n i o, n < 4 ∧ v_1 = nI n ∧ toO v_2 o ∧ i < 8 ∧ v_3 = nI i) (snC kz_6 Q_7 v_1 v_2 v_3) + 4) ≤ 600128 ∧ sl + (nc_i (∃ n i o, n < 4 ∧ v_1 = nI n ∧ toO v_2 o ∧ i < 8 ∧ v_3 = nI i) (snZ kz_6 Q_7 v_1 v_2 v_3) + 24) ≤ 7301098 ∧ (∀ (x_9 : Int32) (S_8 : MM), ((x_9 = 0 ∧ ∃ (v0 : Int32) (S0 : MM), (∃ n i o, n < 4 ∧ v_1 = nI n ∧ toO v_2 o ∧ i < 8 ∧ v_3 = nI i ∧ paT (Q_7.G n) (Q_7.Kn n) o ≤ 32768 ∧ v0 = nI (bPuts [] (coA (paF (Q_7.G n) (Q_7.Kn n) o) v_1)).length ∧ wtQ S1 S0 F_4 t X_5 (upF (snK kz_6 (Q_7.G n) (Q_7.Kn n) o v_1) (20 + i) (capN (coA (paF (Q_7.G n) (Q_7.Kn n) o) v_1).length (kz_6 (20 + i)) 0)) (Q_7.sSl (upF Q_7.sl i (bPuts [] (coA (paF (Q_7.G n) (Q_7.Kn n) o) v_1))))) ∧ S_8 = loJ S0 o v0.toInt64) ∨ (x_9 = 1 ∧ S_8 = S1 ∧ (np 4 v_1 ∨ (¬ ∃ o, toO v_2 o) ∨ np 8 v_3)) ∨ (x_9 = 2 ∧ (∃ n i o, n < 4 ∧ v_1 = nI n ∧ toO v_2 o ∧ i < 8 ∧ v_3 = nI i ∧ 32768 < paT (Q_7.G n) (Q_7.Kn n) o ∧ wtQ S1 S_8 F_4 t X_5 (snK kz_6 (Q_7.G n) (Q_7.Kn n) o v_1) Q_7))) → (∃ v_10 : Int32, (r = r ∧ vp_in ((nI (6 * jn)) + (1 : Int32)) A.length ∧ v_10 = A.getD ((nI (6 * jn)) + (1 : Int32)).toNatClampNeg 0) ∧ (∃ v_11 : Int32, (r = r ∧ vp_in ((nI (6 * jn)) + (2 : Int32)) A.length ∧ v_11 = A.getD ((nI (6 * jn)) + (2 : Int32)).toNatClampNeg 0) ∧ (∃ v_12 : Int32, (r = r ∧ vp_in ((nI (6 * jn)) + (3 : Int32)) A.length ∧ v_12 = A.getD ((nI (6 * jn)) + (3 : Int32)).toNatClampNeg 0) ∧ (0 = 0 ∧ (∃ (F_13 : Nat → Nat × Nat) (z_14 : Nat → Nat) (Y_15 : Nat → Nat → Nat) (R_16 : Rb) (kz_17 : Nat → Nat), (MD S_8 F_13 m z_14 Y_15 R_16 kz_17 ∧ AbC R_16) ∧ cs + (nc_i (∃ n i o, n < 4 ∧ v_1 = nI n ∧ toO v_2 o ∧ i < 8 ∧ v_3 = nI i) (snC kz_6 Q_7 v_1 v_2 v_3) + 4) + (3 + nc_i (∃ n o i, n < 4 ∧ v_10 = nI n ∧ (∀ q, o = some q → q < 4) ∧ v_11 = stI o ∧ i < 8 ∧ v_12 = nI i ∧ (rmB (wpF R_16 n o) n 5).length + 4 ≤ 32768) (kpC R_16 v_12.toNatClampNeg)) ≤ 600128 ∧ sl + (nc_i (∃ n i o, n < 4 ∧ v_1 = nI n ∧ toO v_2 o ∧ i < 8 ∧ v_3 = nI i) (snZ kz_6 Q_7 v_1 v_2 v_3) + 24) + (18 + nc_i (∃ n o i, n < 4 ∧ v_10 = nI n ∧ (∀ q, o = some q → q < 4) ∧ v_11 = stI o ∧ i < 8 ∧ v_12 = nI i ∧ (rmB (wpF R_16 n o) n 5).length + 4 ≤ 32768) (kpZ R_16 v_12.toNatClampNeg)) ≤ 7301098 ∧ (∀ (x_19 : Int32) (S_18 : MM), ((∃ n o i, n < 4 ∧ v_10 = nI n ∧ (∀ q, o = some q → q < 4) ∧ v_11 = stI o ∧ i < 8 ∧ v_12 = nI i ∧ (rmB (wpF R_16 n o) n 5).length + 4 ≤ 32768 ∧ x_19 = nI (rmA (wpF R_16 n o) n).length ∧ mdW S_8 S_18 F_13 m (kpR R_16 i (rmA (wpF R_16 n o) n)) kz_17 0) ∨ ((np 4 v_10 ∨ (v_11 ≠ -1 ∧ np 4 v_11) ∨ np 8 v_12) ∧ x_19 = 0 ∧ mdW S_8 S_18 F_13 m R_16 kz_17 1) ∨ ((∃ n o i, n < 4 ∧ v_10 = nI n ∧ (∀ q, o = some q → q < 4) ∧ v_11 = stI o ∧ i < 8 ∧ v_12 = nI i ∧ 32768 < (rmB (wpF R_16 n o) n 5).length + 4 ∧ mdW S_8 S_18 F_13 m R_16 kz_17 2) ∧ x_19 = 0)) → (0 = 0 ∧ (∃ (v9_20 : Int32), (isO S_18 15 m ∧ mI S_18 1551 m = v9_20) ∧ cs + (nc_i (∃ n i o, n < 4 ∧ v_1 = nI n ∧ toO v_2 o ∧ i < 8 ∧ v_3 = nI i) (snC kz_6 Q_7 v_1 v_2 v_3) + 4) + (3 + nc_i (∃ n o i, n < 4 ∧ v_10 = nI n ∧ (∀ q, o = some q → q < 4) ∧ v_11 = stI o ∧ i < 8 ∧ v_12 = nI i ∧ (rmB (wpF R_16 n o) n 5).length + 4 ≤ 32768) (kpC R_16 v_12.toNatClampNeg)) ≤ 600128 ∧ sl + (nc_i (∃ n i o, n < 4 ∧ v_1 = nI n ∧ toO v_2 o ∧ i < 8 ∧ v_3 = nI i) (snZ kz_6 Q_7 v_1 v_2 v_3) + 24) + (18 + nc_i (∃ n o i, n < 4 ∧ v_10 = nI n ∧ (∀ q, o = some q → q < 4) ∧ v_11 = stI o ∧ i < 8 ∧ v_12 = nI i ∧ (rmB (wpF R_16 n o) n 5).length + 4 ≤ 32768) (kpZ R_16 v_12.toNatClampNeg)) ≤ 7301098 ∧ (((v9_20 = x_9 → ((¬ x_9 = 0 → (∃ k1, k1 < k ∧ I_nx r A k1 [(0, .inr (.inr (some r))), (1, .inr (.inr (some t))), (2, .inr (.inr (some m))), (3, .inr (.inr (some o))), (4, .inl (nI (6 * jn)))] [] S_18 (cs + (nc_i (∃ n i o, n < 4 ∧ v_1 = nI n ∧ toO v_2 o ∧ i < 8 ∧ v_3 = nI i) (snC kz_6 Q_7 v_1 v_2 v_3) + 4) + (3 + nc_i (∃ n o i, n < 4 ∧ v_10 = nI n ∧ (∀ q, o = some q → q < 4) ∧ v_11 = stI o ∧ i < 8 ∧ v_12 = nI i ∧ (rmB (wpF R_16 n o) n 5).length + 4 ≤ 32768) (kpC R_16 v_12.toNatClampNeg))) (sl + (nc_i (∃ n i o, n < 4 ∧ v_1 = nI n ∧ toO v_2 o ∧ i < 8 ∧ v_3 = nI i) (snZ kz_6 Q_7 v_1 v_2 v_3) + 24) + (18 + nc_i (∃ n o i, n < 4 ∧ v_10 = nI n ∧ (∀ q, o = some q → q < 4) ∧ v_11 = stI o ∧ i < 8 ∧ v_12 = nI i ∧ (rmB (wpF R_16 n o) n 5).length + 4 ≤ 32768) (kpZ R_16 v_12.toNatClampNeg))))) ∧ (x_9 = 0 → (isO S_18 18 o ∧ inR S_18 o (0 : Int32) ∧ (((lg_cmp (eJ S_18 o (0 : Int32).toNatClampNeg) x_19.toInt64) = 0 → (∃ k1, k1 < k ∧ I_nx r A k1 [(0, .inr (.inr (some r))), (1, .inr (.inr (some t))), (2, .inr (.inr (some m))), (3, .inr (.inr (some o))), (4, .inl (nI (6 * jn)))] [] S_18 (cs + (nc_i (∃ n i o, n < 4 ∧ v_1 = nI n ∧ toO v_2 o ∧ i < 8 ∧ v_3 = nI i) (snC kz_6 Q_7 v_1 v_2 v_3) + 4) + (3 + nc_i (∃ n o i, n < 4 ∧ v_10 = nI n ∧ (∀ q, o = some q → q < 4) ∧ v_11 = stI o ∧ i < 8 ∧ v_12 = nI i ∧ (rmB (wpF R_16 n o) n 5).length + 4 ≤ 32768) (kpC R_16 v_12.toNatClampNeg))) (sl + (nc_i (∃ n i o, n < 4 ∧ v_1 = nI n ∧ toO v_2 o ∧ i < 8 ∧ v_3 = nI i) (snZ kz_6 Q_7 v_1 v_2 v_3) + 24) + (18 + nc_i (∃ n o i, n < 4 ∧ v_10 = nI n ∧ (∀ q, o = some q → q < 4) ∧ v_11 = stI o ∧ i < 8 ∧ v_12 = nI i ∧ (rmB (wpF R_16 n o) n 5).length + 4 ≤ 32768) (kpZ R_16 v_12.toNatClampNeg))))) ∧ (¬ (lg_cmp (eJ S_18 o (0 : Int32).toNatClampNeg) x_19.toInt64) = 0 → (([] : List MV) = [] ∧ retL (some (.inl (0 : Int32))) S_18 (cs + (nc_i (∃ n i o, n < 4 ∧ v_1 = nI n ∧ toO v_2 o ∧ i < 8 ∧ v_3 = nI i) (snC kz_6 Q_7 v_1 v_2 v_3) + 4) + (3 + nc_i (∃ n o i, n < 4 ∧ v_10 = nI n ∧ (∀ q, o = some q → q < 4) ∧ v_11 = stI o ∧ i < 8 ∧ v_12 = nI i ∧ (rmB (wpF R_16 n o) n 5).length + 4 ≤ 32768) (kpC R_16 v_12.toNatClampNeg))) (sl + (nc_i (∃ n i o, n < 4 ∧ v_1 = nI n ∧ toO v_2 o ∧ i < 8 ∧ v_3 = nI i) (snZ kz_6 Q_7 v_1 v_2 v_3) + 24) + (18 + nc_i (∃ n o i, n < 4 ∧ v_10 = nI n ∧ (∀ q, o = some q → q < 4) ∧ v_11 = stI o ∧ i < 8 ∧ v_12 = nI i ∧ (rmB (wpF R_16 n o) n 5).length + 4 ≤ 32768) (kpZ R_16 v_12.toNatClampNeg)))))))))) ∧ (¬ v9_20 = x_9 → (([] : List MV) = [] ∧ retL (some (.inl (0 : Int32))) S_18 (cs + (nc_i (∃ n i o, n < 4 ∧ v_1 = nI n ∧ toO v_2 o ∧ i < 8 ∧ v_3 = nI i) (snC kz_6 Q_7 v_1 v_2 v_3) + 4) + (3 + nc_i (∃ n o i, n < 4 ∧ v_10 = nI n ∧ (∀ q, o = some q → q < 4) ∧ v_11 = stI o ∧ i < 8 ∧ v_12 = nI i ∧ (rmB (wpF R_16 n o) n 5).length + 4 ≤ 32768) (kpC R_16 v_12.toNatClampNeg))) (sl + (nc_i (∃ n i o, n < 4 ∧ v_1 = nI n ∧ toO v_2 o ∧ i < 8 ∧ v_3 = nI i) (snZ kz_6 Q_7 v_1 v_2 v_3) + 24) + (18 + nc_i (∃ n o i, n < 4 ∧ v_10 = nI n ∧ (∀ q, o = some q → q < 4) ∧ v_11 = stI o ∧ i < 8 ∧ v_12 = nI i ∧ (rmB (wpF R_16 n o) n 5).length + 4 ≤ 32768) (kpZ R_16 v_12.toNatClampNeg)))))))))))))))))))))
  obtain ⟨rc, rs⟩ := room_le hL.1 hI hK (show jn ≤ 64 by omega) hcs hsl
  have hB : BdQ Q := hI.1.bd hL.2.1.bd
  obtain ⟨eG, eT, eK, etp, esl, eft, efo, emp, evw, ehu, eap, ean⟩ := id hI.1
  have gok : ∀ p, p < 4 → (Q.G p).ok := fun p hp => (hI.2.2.2.1 p hp).1.1
  have gokR : ∀ p, p < 4 → (R.Q.G p).ok := fun p hp => by rw [eG]; exact gok p hp
  have hb := kzB.of hL.1 hK
  have bn : (np 4 (A.getD (6 * jn + 1) 0) ∨ (¬ ∃ o, toO (A.getD (6 * jn + 2) 0) o) ∨ np 8 (A.getD (6 * jn + 3) 0)) → ¬ (∃ n i o, n < 4 ∧ (A.getD (6 * jn + 1) 0) = nI n ∧ toO (A.getD (6 * jn + 2) 0) o ∧ i < 8 ∧ (A.getD (6 * jn + 3) 0) = nI i) := fun w ⟨n, i, u, n1, n2, n3, i1, i2⟩ => w.elim (fun w => np_no w n1 n2) (fun w => w.elim (fun w => w ⟨u, n3⟩) (fun w => np_no w i1 i2))
  have bnR : (np 4 (A.getD (6 * jn + 1) 0) ∨ ((A.getD (6 * jn + 2) 0) ≠ -1 ∧ np 4 (A.getD (6 * jn + 2) 0)) ∨ np 8 (A.getD (6 * jn + 3) 0)) → ¬ (∃ n o i, n < 4 ∧ (A.getD (6 * jn + 1) 0) = nI n ∧ (∀ q, o = some q → q < 4) ∧ (A.getD (6 * jn + 2) 0) = stI o ∧ i < 8 ∧ (A.getD (6 * jn + 3) 0) = nI i ∧ (rmB (wpF R n o) n 5).length + 4 ≤ 32768) := fun w ⟨n, u, i, n1, n2, n3, n4, i1, i2, n6⟩ => by
    rcases w with w | ⟨w1, w2⟩ | w
    · exact np_no w n1 n2
    · cases u with
      | none => exact w1 n4
      | some q => exact np_no w2 (n3 q rfl) n4
    · exact np_no w i1 i2
  have good : ∀ n i u, n < 4 → (A.getD (6 * jn + 1) 0) = nI n → toO (A.getD (6 * jn + 2) 0) u → i < 8 → (A.getD (6 * jn + 3) 0) = nI i → (paT (Q.G n) (Q.Kn n) u ≤ 32768 → (nc_i (∃ n i o, n < 4 ∧ (A.getD (6 * jn + 1) 0) = nI n ∧ toO (A.getD (6 * jn + 2) 0) o ∧ i < 8 ∧ (A.getD (6 * jn + 3) 0) = nI i) (snC kz Q (A.getD (6 * jn + 1) 0) (A.getD (6 * jn + 2) 0) (A.getD (6 * jn + 3) 0)) + 4 + pCc Q kz ≤ pCc Q (upF (snK kz (Q.G n) (Q.Kn n) u (A.getD (6 * jn + 1) 0)) (20 + i) (capN (coA (paF (Q.G n) (Q.Kn n) u) (A.getD (6 * jn + 1) 0)).length (kz (20 + i)) 0)) + 500) ∧ (nc_i (∃ n i o, n < 4 ∧ (A.getD (6 * jn + 1) 0) = nI n ∧ toO (A.getD (6 * jn + 2) 0) o ∧ i < 8 ∧ (A.getD (6 * jn + 3) 0) = nI i) (snZ kz Q (A.getD (6 * jn + 1) 0) (A.getD (6 * jn + 2) 0) (A.getD (6 * jn + 3) 0)) + 24 + pZc Q kz ≤ pZc Q (upF (snK kz (Q.G n) (Q.Kn n) u (A.getD (6 * jn + 1) 0)) (20 + i) (capN (coA (paF (Q.G n) (Q.Kn n) u) (A.getD (6 * jn + 1) 0)).length (kz (20 + i)) 0)) + 4000) ∧ LIk (upF (snK kz (Q.G n) (Q.Kn n) u (A.getD (6 * jn + 1) 0)) (20 + i) (capN (coA (paF (Q.G n) (Q.Kn n) u) (A.getD (6 * jn + 1) 0)).length (kz (20 + i)) 0)) k2 ∧ kzB (upF (snK kz (Q.G n) (Q.Kn n) u (A.getD (6 * jn + 1) 0)) (20 + i) (capN (coA (paF (Q.G n) (Q.Kn n) u) (A.getD (6 * jn + 1) 0)).length (kz (20 + i)) 0))) ∧ (32768 < paT (Q.G n) (Q.Kn n) u → (nc_i (∃ n i o, n < 4 ∧ (A.getD (6 * jn + 1) 0) = nI n ∧ toO (A.getD (6 * jn + 2) 0) o ∧ i < 8 ∧ (A.getD (6 * jn + 3) 0) = nI i) (snC kz Q (A.getD (6 * jn + 1) 0) (A.getD (6 * jn + 2) 0) (A.getD (6 * jn + 3) 0)) + 4 + pCc Q kz ≤ pCc Q (snK kz (Q.G n) (Q.Kn n) u (A.getD (6 * jn + 1) 0)) + 500) ∧ (nc_i (∃ n i o, n < 4 ∧ (A.getD (6 * jn + 1) 0) = nI n ∧ toO (A.getD (6 * jn + 2) 0) o ∧ i < 8 ∧ (A.getD (6 * jn + 3) 0) = nI i) (snZ kz Q (A.getD (6 * jn + 1) 0) (A.getD (6 * jn + 2) 0) (A.getD (6 * jn + 3) 0)) + 24 + pZc Q kz ≤ pZc Q (snK kz (Q.G n) (Q.Kn n) u (A.getD (6 * jn + 1) 0)) + 4000) ∧ LIk (snK kz (Q.G n) (Q.Kn n) u (A.getD (6 * jn + 1) 0)) k2 ∧ kzB (snK kz (Q.G n) (Q.Kn n) u (A.getD (6 * jn + 1) 0))) := fun n i u n1 n2 n3 i1 i2 => by
    have cn : (A.getD (6 * jn + 1) 0).toNatClampNeg = n := by rw [n2]; exact nI_clamp (by omega)
    have ci : (A.getD (6 * jn + 3) 0).toNatClampNeg = i := by rw [i2]; exact nI_clamp (by omega)
    obtain ⟨g1, g2⟩ := sn_g (x := (A.getD (6 * jn + 2) 0)) hL.1 hK cn ci i1 (toO_sd n3)
    rw [nc_it ⟨n, i, u, n1, n2, n3, i1, i2⟩, nc_it ⟨n, i, u, n1, n2, n3, i1, i2⟩]
    refine ⟨fun c => ?_, fun c => ?_⟩
    · obtain ⟨a1, a2, a3⟩ := g1 c
      exact ⟨by omega, by omega, a3⟩
    · obtain ⟨a1, a2, a3⟩ := g2 c
      exact ⟨by omega, by omega, a3⟩
  have bad : ¬ (∃ n i o, n < 4 ∧ (A.getD (6 * jn + 1) 0) = nI n ∧ toO (A.getD (6 * jn + 2) 0) o ∧ i < 8 ∧ (A.getD (6 * jn + 3) 0) = nI i) → (nc_i (∃ n i o, n < 4 ∧ (A.getD (6 * jn + 1) 0) = nI n ∧ toO (A.getD (6 * jn + 2) 0) o ∧ i < 8 ∧ (A.getD (6 * jn + 3) 0) = nI i) (snC kz Q (A.getD (6 * jn + 1) 0) (A.getD (6 * jn + 2) 0) (A.getD (6 * jn + 3) 0)) + 4 + pCc Q kz ≤ pCc Q kz + 500) ∧ (nc_i (∃ n i o, n < 4 ∧ (A.getD (6 * jn + 1) 0) = nI n ∧ toO (A.getD (6 * jn + 2) 0) o ∧ i < 8 ∧ (A.getD (6 * jn + 3) 0) = nI i) (snZ kz Q (A.getD (6 * jn + 1) 0) (A.getD (6 * jn + 2) 0) (A.getD (6 * jn + 3) 0)) + 24 + pZc Q kz ≤ pZc Q kz + 4000) := fun w => by
    rw [nc_in w, nc_in w]; omega
  have rgood : ∀ i B, B ≠ [] → (∃ n o i, n < 4 ∧ (A.getD (6 * jn + 1) 0) = nI n ∧ (∀ q, o = some q → q < 4) ∧ (A.getD (6 * jn + 2) 0) = stI o ∧ i < 8 ∧ (A.getD (6 * jn + 3) 0) = nI i ∧ (rmB (wpF R n o) n 5).length + 4 ≤ 32768) → i < 8 → (A.getD (6 * jn + 3) 0) = nI i → (3 + nc_i (∃ n o i, n < 4 ∧ (A.getD (6 * jn + 1) 0) = nI n ∧ (∀ q, o = some q → q < 4) ∧ (A.getD (6 * jn + 2) 0) = stI o ∧ i < 8 ∧ (A.getD (6 * jn + 3) 0) = nI i ∧ (rmB (wpF R n o) n 5).length + 4 ≤ 32768) (kpC R (A.getD (6 * jn + 3) 0).toNatClampNeg) + pCr R k2 ≤ pCr (kpR R i B) k2 + 500) ∧ (18 + nc_i (∃ n o i, n < 4 ∧ (A.getD (6 * jn + 1) 0) = nI n ∧ (∀ q, o = some q → q < 4) ∧ (A.getD (6 * jn + 2) 0) = stI o ∧ i < 8 ∧ (A.getD (6 * jn + 3) 0) = nI i ∧ (rmB (wpF R n o) n 5).length + 4 ≤ 32768) (kpZ R (A.getD (6 * jn + 3) 0).toNatClampNeg) + pZr R k2 ≤ pZr (kpR R i B) k2 + 4000) := fun i B hB w i1 i2 => by
    have ci : (A.getD (6 * jn + 3) 0).toNatClampNeg = i := by rw [i2]; exact nI_clamp (by omega)
    rw [nc_it w, nc_it w, ci]
    have e := fuS_kp R i1 hB
    have e1 : pCr (kpR R i B) k2 = pCr R k2 := rfl
    have e2 : pZr (kpR R i B) k2 + 32768 * fuS R = pZr R k2 + 32768 * fuS (kpR R i B) := by
      unfold pZr
      show smN (fun p => grZ (R.Q.G p)) 4 + _ + _ + _ + _ + 32768 * fuS (kpR R i B) + _ = _
      omega
    rw [e1]
    unfold kpC kpZ
    by_cases c : R.Q.sl i = []
    · rw [if_pos c] at e
      rw [if_pos c, if_pos c]
      exact ⟨by omega, by omega⟩
    · rw [if_neg c] at e
      rw [if_neg c, if_neg c]
      exact ⟨by omega, by omega⟩
  have rbad : ¬ (∃ n o i, n < 4 ∧ (A.getD (6 * jn + 1) 0) = nI n ∧ (∀ q, o = some q → q < 4) ∧ (A.getD (6 * jn + 2) 0) = stI o ∧ i < 8 ∧ (A.getD (6 * jn + 3) 0) = nI i ∧ (rmB (wpF R n o) n 5).length + 4 ≤ 32768) → (3 + nc_i (∃ n o i, n < 4 ∧ (A.getD (6 * jn + 1) 0) = nI n ∧ (∀ q, o = some q → q < 4) ∧ (A.getD (6 * jn + 2) 0) = stI o ∧ i < 8 ∧ (A.getD (6 * jn + 3) 0) = nI i ∧ (rmB (wpF R n o) n 5).length + 4 ≤ 32768) (kpC R (A.getD (6 * jn + 3) 0).toNatClampNeg) + pCr R k2 ≤ pCr R k2 + 500) ∧ (18 + nc_i (∃ n o i, n < 4 ∧ (A.getD (6 * jn + 1) 0) = nI n ∧ (∀ q, o = some q → q < 4) ∧ (A.getD (6 * jn + 2) 0) = stI o ∧ i < 8 ∧ (A.getD (6 * jn + 3) 0) = nI i ∧ (rmB (wpF R n o) n 5).length + 4 ≤ 32768) (kpZ R (A.getD (6 * jn + 3) 0).toNatClampNeg) + pZr R k2 ≤ pZr R k2 + 4000) := fun w => by
    rw [nc_in w, nc_in w]; omega
  have fit : cs + (nc_i (∃ n i o, n < 4 ∧ (A.getD (6 * jn + 1) 0) = nI n ∧ toO (A.getD (6 * jn + 2) 0) o ∧ i < 8 ∧ (A.getD (6 * jn + 3) 0) = nI i) (snC kz Q (A.getD (6 * jn + 1) 0) (A.getD (6 * jn + 2) 0) (A.getD (6 * jn + 3) 0)) + 4) ≤ 600000 ∧ sl + (nc_i (∃ n i o, n < 4 ∧ (A.getD (6 * jn + 1) 0) = nI n ∧ toO (A.getD (6 * jn + 2) 0) o ∧ i < 8 ∧ (A.getD (6 * jn + 3) 0) = nI i) (snZ kz Q (A.getD (6 * jn + 1) 0) (A.getD (6 * jn + 2) 0) (A.getD (6 * jn + 3) 0)) + 24) ≤ 7300000 := by
    by_cases w : ∃ n i o, n < 4 ∧ (A.getD (6 * jn + 1) 0) = nI n ∧ toO (A.getD (6 * jn + 2) 0) o ∧ i < 8 ∧ (A.getD (6 * jn + 3) 0) = nI i
    · obtain ⟨n, i, u, n1, n2, n3, i1, i2⟩ := w
      obtain ⟨g1, g2⟩ := good n i u n1 n2 n3 i1 i2
      rcases Nat.lt_or_ge 32768 (paT (Q.G n) (Q.Kn n) u) with q | q
      · obtain ⟨a1, a2, -, a4⟩ := g2 q
        exact fit_c hI hK (by omega) hcs hsl gok a4 a1 a2
      · obtain ⟨a1, a2, -, a4⟩ := g1 q
        exact fit_c hI hK (by omega) hcs hsl gok a4 a1 a2
    · obtain ⟨g1, g2⟩ := bad w
      exact fit_c hI hK (by omega) hcs hsl gok hb g1 g2
  refine ⟨_, hL.rd (k := 1) (by decide) (by omega) hA, _, hL.rd (k := 2) (by decide) (by omega) hA, _, hL.rd (k := 3) (by decide) (by omega) hA, rfl, F, X, kz, Q, ⟨hL.1, hL.lwo⟩, by omega, by omega, fun x9 S6 hq => ?_⟩
  have key : ∃ (c : Nat) (v : Int32) (Q1 : Ab) (kz1 : Nat → Nat) (F6 : Nat → Nat × Nat), x9 = nI c ∧ c < 8 ∧ ((c = 0 ∧ ∃ n i o, n < 4 ∧ (A.getD (6 * jn + 1) 0) = nI n ∧ toO (A.getD (6 * jn + 2) 0) o ∧ i < 8 ∧ (A.getD (6 * jn + 3) 0) = nI i ∧ paT (Q.G n) (Q.Kn n) o ≤ 32768 ∧ v = nI (bPuts [] (coA (paF (Q.G n) (Q.Kn n) o) (A.getD (6 * jn + 1) 0))).length ∧ Q1 = Q.sSl (upF Q.sl i (bPuts [] (coA (paF (Q.G n) (Q.Kn n) o) (A.getD (6 * jn + 1) 0))))) ∨ (c = 1 ∧ (np 4 (A.getD (6 * jn + 1) 0) ∨ (¬ ∃ o, toO (A.getD (6 * jn + 2) 0) o) ∨ np 8 (A.getD (6 * jn + 3) 0)) ∧ Q1 = Q) ∨ (c = 2 ∧ (∃ n i o, n < 4 ∧ (A.getD (6 * jn + 1) 0) = nI n ∧ toO (A.getD (6 * jn + 2) 0) o ∧ i < 8 ∧ (A.getD (6 * jn + 3) 0) = nI i ∧ 32768 < paT (Q.G n) (Q.Kn n) o) ∧ Q1 = Q)) ∧ ((nc_i (∃ n i o, n < 4 ∧ (A.getD (6 * jn + 1) 0) = nI n ∧ toO (A.getD (6 * jn + 2) 0) o ∧ i < 8 ∧ (A.getD (6 * jn + 3) 0) = nI i) (snC kz Q (A.getD (6 * jn + 1) 0) (A.getD (6 * jn + 2) 0) (A.getD (6 * jn + 3) 0)) + 4 + pCc Q kz ≤ pCc Q1 kz1 + 500) ∧ (nc_i (∃ n i o, n < 4 ∧ (A.getD (6 * jn + 1) 0) = nI n ∧ toO (A.getD (6 * jn + 2) 0) o ∧ i < 8 ∧ (A.getD (6 * jn + 3) 0) = nI i) (snZ kz Q (A.getD (6 * jn + 1) 0) (A.getD (6 * jn + 2) 0) (A.getD (6 * jn + 3) 0)) + 24 + pZc Q kz ≤ pZc Q1 kz1 + 4000) ∧ LIk kz1 k2) ∧ Lw S6 F6 t m o r A X kz1 Q1 z Y R k2 ∧ (x9 = 0 → eJ S6 o 0 = v.toInt64) := by
    rcases hq with ⟨rfl, v0, S0, ⟨n, i, u, q0, q1, q2, q3, q4, q5, q6, gW⟩, rfl⟩ | ⟨rfl, rfl, h1⟩ | ⟨rfl, n, i, u, q0, q1, q2, q3, q4, q5, gW⟩
    · obtain ⟨F6, g1, g2⟩ := hL.ok (v := v0.toInt64) gW
      obtain ⟨g3, g4, g5, -⟩ := (good n i u q0 q1 q2 q3 q4).1 q5
      exact ⟨0, v0, _, _, F6, rfl, by decide, Or.inl ⟨rfl, n, i, u, q0, q1, q2, q3, q4, q5, q6, rfl⟩, ⟨g3, g4, g5⟩, g1, fun _ => g2⟩
    · obtain ⟨g1, g2⟩ := bad (bn h1)
      exact ⟨1, 0, Q, kz, F, rfl, by decide, Or.inr (Or.inl ⟨rfl, h1, rfl⟩), ⟨g1, g2, hK⟩, hL, fun w => absurd w (by decide)⟩
    · obtain ⟨F6, g1, -, -⟩ := hL.cls gW
      obtain ⟨g3, g4, g5, -⟩ := (good n i u q0 q1 q2 q3 q4).2 q5
      exact ⟨2, 0, Q, _, F6, rfl, by decide, Or.inr (Or.inr ⟨rfl, ⟨n, i, u, q0, q1, q2, q3, q4, q5⟩, rfl⟩), ⟨g3, g4, g5⟩, g1, fun w => absurd w (by decide)⟩
  obtain ⟨c, v, Q1, kz1, F6, hx, hc8, hc, ⟨p1, p2, hK1⟩, hL6, hv⟩ := key
  have gQ : Q1.G = Q.G := by rcases hc with ⟨-, n, i, u, -, -, -, -, -, -, -, rfl⟩ | ⟨-, -, rfl⟩ | ⟨-, -, rfl⟩ <;> rfl
  have gok1 : ∀ p, p < 4 → (Q1.G p).ok := fun p hp => by rw [gQ]; exact gok p hp
  have fr : cs + (nc_i (∃ n i o, n < 4 ∧ (A.getD (6 * jn + 1) 0) = nI n ∧ toO (A.getD (6 * jn + 2) 0) o ∧ i < 8 ∧ (A.getD (6 * jn + 3) 0) = nI i) (snC kz Q (A.getD (6 * jn + 1) 0) (A.getD (6 * jn + 2) 0) (A.getD (6 * jn + 3) 0)) + 4) + (3 + nc_i (∃ n o i, n < 4 ∧ (A.getD (6 * jn + 1) 0) = nI n ∧ (∀ q, o = some q → q < 4) ∧ (A.getD (6 * jn + 2) 0) = stI o ∧ i < 8 ∧ (A.getD (6 * jn + 3) 0) = nI i ∧ (rmB (wpF R n o) n 5).length + 4 ≤ 32768) (kpC R (A.getD (6 * jn + 3) 0).toNatClampNeg)) ≤ 600000 ∧ sl + (nc_i (∃ n i o, n < 4 ∧ (A.getD (6 * jn + 1) 0) = nI n ∧ toO (A.getD (6 * jn + 2) 0) o ∧ i < 8 ∧ (A.getD (6 * jn + 3) 0) = nI i) (snZ kz Q (A.getD (6 * jn + 1) 0) (A.getD (6 * jn + 2) 0) (A.getD (6 * jn + 3) 0)) + 24) + (18 + nc_i (∃ n o i, n < 4 ∧ (A.getD (6 * jn + 1) 0) = nI n ∧ (∀ q, o = some q → q < 4) ∧ (A.getD (6 * jn + 2) 0) = stI o ∧ i < 8 ∧ (A.getD (6 * jn + 3) 0) = nI i ∧ (rmB (wpF R n o) n 5).length + 4 ≤ 32768) (kpZ R (A.getD (6 * jn + 3) 0).toNatClampNeg)) ≤ 7300000 := by
    by_cases w : ∃ n o i, n < 4 ∧ (A.getD (6 * jn + 1) 0) = nI n ∧ (∀ q, o = some q → q < 4) ∧ (A.getD (6 * jn + 2) 0) = stI o ∧ i < 8 ∧ (A.getD (6 * jn + 3) 0) = nI i ∧ (rmB (wpF R n o) n 5).length + 4 ≤ 32768
    · obtain ⟨n, u, i, n1, n2, n3, n4, i1, i2, n6⟩ := id w
      obtain ⟨g1, g2⟩ := rgood i [0] (fun q => by cases q) w i1 i2
      exact fit_r (by omega) hcs hsl p1 p2 gok1 (kzB.of hL6.1 hK1) (R1 := kpR R i [0]) gokR hK.2.2.2.2.1 hK.2.2.2.2.2.2.1 hK.2.2.2.2.2.2.2.1 hK.2.2.2.2.2.2.2.2.1.1 g1 g2
    · obtain ⟨g1, g2⟩ := rbad w
      exact fit_r (by omega) hcs hsl p1 p2 gok1 (kzB.of hL6.1 hK1) (R1 := R) gokR hK.2.2.2.2.1 hK.2.2.2.2.2.2.1 hK.2.2.2.2.2.2.2.1 hK.2.2.2.2.2.2.2.2.1.1 g1 g2
  refine ⟨_, hL6.rd (k := 1) (by decide) (by omega) hA, _, hL6.rd (k := 2) (by decide) (by omega) hA, _, hL6.rd (k := 3) (by decide) (by omega) hA, rfl, F6, z, Y, R, k2, ⟨hL6.2.1, hI.abc⟩, by omega, by omega, fun v9 S9 hr => ?_⟩
  have key2 : ∃ (th : Nat) (R1 : Rb), ((th = 0 ∧ ∃ n o i, n < 4 ∧ (A.getD (6 * jn + 1) 0) = nI n ∧ (∀ q, o = some q → q < 4) ∧ (A.getD (6 * jn + 2) 0) = stI o ∧ i < 8 ∧ (A.getD (6 * jn + 3) 0) = nI i ∧ (rmB (wpF R n o) n 5).length + 4 ≤ 32768 ∧ v9 = nI (rmA (wpF R n o) n).length ∧ R1 = kpR R i (rmA (wpF R n o) n)) ∨ (th = 1 ∧ (np 4 (A.getD (6 * jn + 1) 0) ∨ ((A.getD (6 * jn + 2) 0) ≠ -1 ∧ np 4 (A.getD (6 * jn + 2) 0)) ∨ np 8 (A.getD (6 * jn + 3) 0)) ∧ R1 = R) ∨ (th = 2 ∧ (∃ n o i, n < 4 ∧ (A.getD (6 * jn + 1) 0) = nI n ∧ (∀ q, o = some q → q < 4) ∧ (A.getD (6 * jn + 2) 0) = stI o ∧ i < 8 ∧ (A.getD (6 * jn + 3) 0) = nI i ∧ 32768 < (rmB (wpF R n o) n 5).length + 4) ∧ R1 = R)) ∧ ((3 + nc_i (∃ n o i, n < 4 ∧ (A.getD (6 * jn + 1) 0) = nI n ∧ (∀ q, o = some q → q < 4) ∧ (A.getD (6 * jn + 2) 0) = stI o ∧ i < 8 ∧ (A.getD (6 * jn + 3) 0) = nI i ∧ (rmB (wpF R n o) n 5).length + 4 ≤ 32768) (kpC R (A.getD (6 * jn + 3) 0).toNatClampNeg) + pCr R k2 ≤ pCr R1 k2 + 500) ∧ (18 + nc_i (∃ n o i, n < 4 ∧ (A.getD (6 * jn + 1) 0) = nI n ∧ (∀ q, o = some q → q < 4) ∧ (A.getD (6 * jn + 2) 0) = stI o ∧ i < 8 ∧ (A.getD (6 * jn + 3) 0) = nI i ∧ (rmB (wpF R n o) n 5).length + 4 ≤ 32768) (kpZ R (A.getD (6 * jn + 3) 0).toNatClampNeg) + pZr R k2 ≤ pZr R1 k2 + 4000)) ∧ mdW S6 S9 F6 m R1 k2 th := by
    rcases hr with ⟨n, u, i, q0, q1, q2, q3, q4, q5, q6, q7, gW⟩ | ⟨h1, q1, gW⟩ | ⟨⟨n, u, i, q0, q1, q2, q3, q4, q5, q6, gW⟩, q7⟩
    · exact ⟨0, _, Or.inl ⟨rfl, n, u, i, q0, q1, q2, q3, q4, q5, q6, q7, rfl⟩, rgood i _ (rmA_ne _ _) ⟨n, u, i, q0, q1, q2, q3, q4, q5, q6⟩ q4 q5, gW⟩
    · exact ⟨1, R, Or.inr (Or.inl ⟨rfl, h1, rfl⟩), rbad (bnR h1), gW⟩
    · have nw : ¬ (∃ n o i, n < 4 ∧ (A.getD (6 * jn + 1) 0) = nI n ∧ (∀ q, o = some q → q < 4) ∧ (A.getD (6 * jn + 2) 0) = stI o ∧ i < 8 ∧ (A.getD (6 * jn + 3) 0) = nI i ∧ (rmB (wpF R n o) n 5).length + 4 ≤ 32768) := fun ⟨n', u', i', a0, a1, a2, a3, a4, a5, a6⟩ => by
        have e1 := nI_ij q1 a1 (by omega) (by omega)
        have e2 : u = u' := (toO_sd (x := (A.getD (6 * jn + 2) 0)) ⟨q3.trans (stI_lo u), q2⟩).symm.trans (toO_sd ⟨a3.trans (stI_lo u'), a2⟩)
        subst e1 e2
        omega
      exact ⟨2, R, Or.inr (Or.inr ⟨rfl, ⟨n, u, i, q0, q1, q2, q3, q4, q5, q6⟩, rfl⟩), rbad nw, gW⟩
  obtain ⟨th, R1, hr, ⟨r1, r2⟩, hw⟩ := key2
  obtain ⟨F9, z9, Y9, hL9, hth, -, hj9⟩ := hL6.ref hw
  obtain ⟨a1, a2, hI1⟩ := ag_snd hI hc hr
  refine lw_cmp hL9 (by rw [hth, a1, ← hx]) (fun w => ?_) (by omega) (by omega) (nx_k hk hj hA hL9 hI1 hK1 hcs hsl p1 p2 r1 r2 (by omega) (by omega))
  rw [hj9, hv w, a2 (nI_z hc8 (hx.symm.trans w))]
