/-! ===== The law: take, load ===== -/
theorem fthr_0 {f : Nat} (h : fthr f = 0) : f = 0 := by
  unfold fthr at h
  split at h
  · assumption
  · split at h <;> omega
theorem fthr_8 {f : Nat} (h : f < 8) : fthr f < 8 := by
  unfold fthr
  split
  · decide
  · split <;> omega
theorem fthr_1 {f : Nat} (h : 1 ≤ f ∧ f ≤ 4) : 1 = fthr f := by
  unfold fthr
  rw [if_neg (by omega), if_pos h.2]
section TKL
variable {Q Q1 : Ab} {R R1 R' : Rb} {p x s v v' : Int32} {c th n : Nat} {kz k2 k21 : Nat → Nat} {B : List Nat}
theorem ag_rdl {d f c' : Nat} (hI : LIv Q R) (hn : n < 4) (hB : ∀ b ∈ B, b < 256) (hK : Q.fo = 0 → KiB Q.G B) (hc : dlv Q n B d Q1) (hr : rdX R n B k2 R' k21 f c') (hv : fthr Q1.ft = 0 → v = nI d) (hv' : v' = if f = 0 then nI c' else 0) : fthr f = fthr Q1.ft ∧ (fthr Q1.ft = 0 → v' = v) ∧ LIv Q1 (R'.sQ (R'.Q.sFt f)) := by
  obtain ⟨a1, a2, a3⟩ := hI.dlv hn hB hK hc hr
  refine ⟨by rw [a1], fun w => ?_, a3⟩
  have f0 : f = 0 := by rw [← a1]; exact fthr_0 w
  rw [hv w, hv', if_pos f0, a2]
theorem tk_gh (p s : Int32) {S : MM} {F : Nat → Nat × Nat} {t : Nat} {X : Nat → GX} (hW : WT S F t X kz Q) (hI : LIv Q R) (hK : LIk kz k2) : ∃ kC kZ, tkB Q p s kC kZ ∧ ((nc_i (∃ n i, tkA Q p s n i ∧ Q.sl i ≠ []) (nc_kC kz (Q.sl s.toNatClampNeg) + kC) + 4) + pCc Q kz ≤ 295540 ∧ (nc_i (∃ n i, tkA Q p s n i ∧ Q.sl i ≠ []) (nc_kZ kz (Q.sl s.toNatClampNeg) + kZ) + 24) + pZc Q kz ≤ 4266944) ∧ ∀ n i, tkA Q p s n i → Q.sl i ≠ [] → ∀ d Q1, dlv Q n (Q.sl i) d Q1 → ((nc_i (∃ n i, tkA Q p s n i ∧ Q.sl i ≠ []) (nc_kC kz (Q.sl s.toNatClampNeg) + kC) + 4) + pCc Q kz ≤ pCc Q1 (nc_tK kz (Q.sl i)) + 500 ∧ (nc_i (∃ n i, tkA Q p s n i ∧ Q.sl i ≠ []) (nc_kZ kz (Q.sl s.toNatClampNeg) + kZ) + 24) + pZc Q kz ≤ pZc Q1 (nc_tK kz (Q.sl i)) + 4000) := by
  have hg : ∀ p, p < 4 → (Q.G p).ok := fun p hp => (hI.2.2.2.1 p hp).1.1
  have hb := kzB.of hW hK
  obtain ⟨q1, q2⟩ := pc_b hg hb
  by_cases w : ∃ n i, tkA Q p s n i ∧ Q.sl i ≠ []
  · obtain ⟨n, i, hA, hi⟩ := id w
    have hsB : ∀ b ∈ Q.sl i, b < 256 := hW.kb.2.2.2.2.2.2.2.2.1 i hA.2.2.1
    have ci : s.toNatClampNeg = i := by rw [hA.2.2.2]; exact nI_clamp (by have := hA.2.2.1; omega)
    obtain ⟨kC, kZ, t1, ⟨t2, t3⟩, t4⟩ := tk_c (B := Q.sl i) hg hA.1 (hI.2.2.2.1 n hA.1).1 hsB hb (hW.kp2.2 5 (by decide))
    have uq : ∀ n' i', tkA Q p s n' i' → n' = n ∧ i' = i := fun n' i' h => ⟨nI_ij h.2.1 hA.2.1 (by have := h.1; omega) (by have := hA.1; omega), nI_ij h.2.2.2 hA.2.2.2 (by have := h.2.2.1; omega) (by have := hA.2.2.1; omega)⟩
    refine ⟨kC, kZ, fun n' i' h => ?_, ⟨?_, ?_⟩, fun n' i' h hne d Q1 hd => ⟨?_, ?_⟩⟩
    · obtain ⟨rfl, rfl⟩ := uq n' i' h
      exact t1
    · rw [nc_it w, ci]; omega
    · rw [nc_it w, ci]; omega
    · obtain ⟨rfl, rfl⟩ := uq n' i' h
      have := t4 d Q1 hd
      rw [nc_it w, ci]; omega
    · obtain ⟨rfl, rfl⟩ := uq n' i' h
      have := t4 d Q1 hd
      rw [nc_it w, ci]; omega
  · refine ⟨0, 0, fun n' i' h hf => ?_, ⟨?_, ?_⟩, fun n' i' h hne => absurd ⟨n', i', h, hne⟩ w⟩
    · have hne : Q.sl i' ≠ [] := fun e => by
        have := hf.1
        rw [e] at this
        exact absurd this (by decide)
      exact absurd ⟨n', i', h, hne⟩ w
    · rw [nc_in w]; omega
    · rw [nc_in w]; omega
theorem rk_gh (p s : Int32) (hI : LIv Q R) (hsB : ∀ i, i < 8 → ∀ b ∈ Q.sl i, b < 256) (hsl : ∀ i, i < 8 → (Q.sl i).length ≤ 32768) (hK : LIk kz k2) : ∃ aC aZ bC bZ kC kZ, tkG R k2 p s aC aZ bC bZ kC kZ ∧ ((4 + (aC + bC + kC)) + pCr R k2 ≤ 213492 ∧ (24 + (aZ + bZ + kZ)) + pZr R k2 ≤ 1085344) ∧ (∀ n i R' k21 f c', n < 4 → p = nI n → i < 8 → s = nI i → R.Q.sl i ≠ [] → rdX R n (R.Q.sl i) k2 R' k21 f c' → ((4 + (aC + bC + kC)) + pCr R k2 ≤ pCr (R'.sQ (R'.Q.sFt f)) k21 + 500 ∧ (24 + (aZ + bZ + kZ)) + pZr R k2 ≤ pZr (R'.sQ (R'.Q.sFt f)) k21 + 4000) ∧ ∀ kz', LIk kz' k2 → LIk kz' k21) ∧ ((¬ ∃ n i, n < 4 ∧ p = nI n ∧ i < 8 ∧ s = nI i ∧ R.Q.sl i ≠ []) → aC + bC + kC = 0 ∧ aZ + bZ + kZ = 0) := by
  obtain ⟨eG, eT, eK, etp, esl, -⟩ := id hI.1
  have hg : ∀ p, p < 4 → (R.Q.G p).ok := fun p hp => by rw [eG]; exact (hI.2.2.2.1 p hp).1.1
  obtain ⟨q1, q2⟩ := pr_b hg hK.2.2.2.2.1 hK.2.2.2.2.2.2.1 hK.2.2.2.2.2.2.2.1 hK.2.2.2.2.2.2.2.2.1.1
  by_cases w : ∃ n i, n < 4 ∧ p = nI n ∧ i < 8 ∧ s = nI i ∧ R.Q.sl i ≠ []
  · obtain ⟨n, i, n1, n2, i1, i2, hne⟩ := id w
    obtain ⟨aC, aZ, bC, bZ, kC, kZ, t1, ⟨t2, t3⟩, t4⟩ := rd_c (B := R.Q.sl i) n1 hg (by rw [eG, eT]; exact (hI.2.2.2.1 n n1).1) (by rw [esl]; exact hsB i i1) (by rw [esl]; exact hsl i i1) hK
    have uq : ∀ n' i', n' < 4 → p = nI n' → i' < 8 → s = nI i' → n' = n ∧ i' = i := fun n' i' a1 a2 a3 a4 => ⟨nI_ij a2 n2 (by omega) (by omega), nI_ij a4 i2 (by omega) (by omega)⟩
    refine ⟨aC, aZ, bC, bZ, kC, kZ, fun n' i' a1 a2 a3 a4 _ => ?_, ⟨by omega, by omega⟩, fun n' i' R' k21 f c' a1 a2 a3 a4 _ hx => ?_, fun q => absurd w q⟩
    · obtain ⟨rfl, rfl⟩ := uq n' i' a1 a2 a3 a4
      exact t1
    · obtain ⟨rfl, rfl⟩ := uq n' i' a1 a2 a3 a4
      obtain ⟨u1, u2, u3⟩ := t4 R' k21 f c' hx
      have e1 : pCr (R'.sQ (R'.Q.sFt f)) k21 = pCr R' k21 := rfl
      have e2 : pZr (R'.sQ (R'.Q.sFt f)) k21 = pZr R' k21 := rfl
      exact ⟨⟨by omega, by omega⟩, u3⟩
  · exact ⟨0, 0, 0, 0, 0, 0, fun n' i' a1 a2 a3 a4 a5 => absurd ⟨n', i', a1, a2, a3, a4, a5⟩ w, ⟨by omega, by omega⟩, fun n' i' R' k21 f c' a1 a2 a3 a4 a5 => absurd ⟨n', i', a1, a2, a3, a4, a5⟩ w, fun _ => ⟨rfl, rfl⟩⟩
theorem ag_tk (hI : LIv Q R) (hsB : ∀ i, i < 8 → ∀ b ∈ Q.sl i, b < 256) (hc : ((∃ n i d, tkA Q p s n i ∧ Q.sl i ≠ [] ∧ dlv Q n (Q.sl i) d Q1 ∧ c = fthr Q1.ft ∧ (c = 0 → v = nI d)) ∨ (c = 1 ∧ (np 4 p ∨ np 8 s) ∧ Q1 = Q) ∨ (c = 2 ∧ (∃ n i, tkA Q p s n i ∧ Q.sl i = []) ∧ Q1 = Q))) (hr : ((∃ n i f R' c', n < 4 ∧ p = nI n ∧ i < 8 ∧ s = nI i ∧ R.Q.sl i ≠ [] ∧ rdX R n (R.Q.sl i) k2 R' k21 f c' ∧ v' = (if f = 0 then nI c' else 0) ∧ th = fthr f ∧ R1 = R'.sQ (R'.Q.sFt f)) ∨ (th = 1 ∧ (np 4 p ∨ np 8 s) ∧ R1 = R) ∨ (th = 2 ∧ (∃ n i, n < 4 ∧ p = nI n ∧ i < 8 ∧ s = nI i ∧ R.Q.sl i = []) ∧ R1 = R))) : th = c ∧ (c = 0 → v' = v) ∧ LIv Q1 R1 := by
  have esl : R.Q.sl = Q.sl := by obtain ⟨eG, eT, eK, etp, esl, -⟩ := id hI.1; exact esl
  rw [esl] at hr
  have uq : ∀ n i n' i', tkA Q p s n i → n' < 4 → p = nI n' → i' < 8 → s = nI i' → n' = n ∧ i' = i := fun n i n' i' h a1 a2 a3 a4 => ⟨nI_ij a2 h.2.1 (by omega) (by have := h.1; omega), nI_ij a4 h.2.2.2 (by omega) (by have := h.2.2.1; omega)⟩
  rcases hc with ⟨n, i, d, h1, h2, h3, h4, h5⟩ | ⟨h0, h1, rfl⟩ | ⟨h0, ⟨n, i, h1, h2⟩, rfl⟩ <;> rcases hr with ⟨n', i', f, R', c', g1, g2, g3, g4, g5, g6, g7, g8, rfl⟩ | ⟨g0, g1, rfl⟩ | ⟨g0, ⟨n', i', g1, g2, g3, g4, g5⟩, rfl⟩
  · obtain ⟨rfl, rfl⟩ := uq n i n' i' h1 g1 g2 g3 g4
    rw [h4] at h5
    obtain ⟨a1, a2, a3⟩ := ag_rdl (v := v) hI g1 (hsB i' g3) (fun hf => (hI.2.2.2.2 hf).2 i' g3) h3 g6 h5 g7
    exact ⟨by rw [g8, h4, a1], fun w => a2 (by rw [← h4]; exact w), a3⟩
  · exact (g1.elim (fun w => np_no w h1.1 h1.2.1) (fun w => np_no w h1.2.2.1 h1.2.2.2)).elim
  · obtain ⟨rfl, rfl⟩ := uq n i n' i' h1 g1 g2 g3 g4
    exact absurd g5 h2
  · exact (h1.elim (fun w => np_no w g1 g2) (fun w => np_no w g3 g4)).elim
  · exact ⟨by omega, fun q => by omega, hI⟩
  · exact (h1.elim (fun w => np_no w g1 g2) (fun w => np_no w g3 g4)).elim
  · obtain ⟨rfl, rfl⟩ := uq n i n' i' h1 g1 g2 g3 g4
    exact absurd h2 g5
  · exact (g1.elim (fun w => np_no w h1.1 h1.2.1) (fun w => np_no w h1.2.2.1 h1.2.2.2)).elim
  · exact ⟨by omega, fun q => by omega, hI⟩
theorem ld_gh (p : Int32) {S : MM} {F : Nat → Nat × Nat} {t : Nat} {X : Nat → GX} (hW : WT S F t X kz Q) (hI : LIv Q R) (hK : LIk kz k2) : ∃ kC kZ, ldB Q p kC kZ ∧ ((nc_i (∃ n, n < 4 ∧ p = nI n) (nc_kC kz Q.tp + kC) + 2) + pCc Q kz ≤ 295540 ∧ (nc_i (∃ n, n < 4 ∧ p = nI n) (nc_kZ kz Q.tp + kZ) + 12) + pZc Q kz ≤ 4266944) ∧ ∀ n, n < 4 → p = nI n → ∀ d Q1, dlv (Q.sFo 1) n Q.tp d Q1 → ((nc_i (∃ n, n < 4 ∧ p = nI n) (nc_kC kz Q.tp + kC) + 2) + pCc Q kz ≤ pCc (Q1.sTp []) (nc_tK kz Q.tp) + 500 ∧ (nc_i (∃ n, n < 4 ∧ p = nI n) (nc_kZ kz Q.tp + kZ) + 12) + pZc Q kz ≤ pZc (Q1.sTp []) (nc_tK kz Q.tp) + 4000) := by
  have hg : ∀ p, p < 4 → (Q.G p).ok := fun p hp => (hI.2.2.2.1 p hp).1.1
  have hb := kzB.of hW hK
  obtain ⟨q1, q2⟩ := pc_b hg hb
  by_cases w : ∃ n, n < 4 ∧ p = nI n
  · obtain ⟨n, n1, n2⟩ := id w
    have hsB : ∀ b ∈ Q.tp, b < 256 := hW.kb.2.2.2.2.2.2.2.1
    obtain ⟨kC, kZ, t1, ⟨t2, t3⟩, t4⟩ := tk_c (Q := Q.sFo 1) (B := Q.tp) hg n1 (hI.2.2.2.1 n n1).1 hsB hb (hW.kp2.2 5 (by decide))
    have t2 : nc_kC kz Q.tp + kC + pCc Q kz ≤ 295049 := t2
    have t3 : nc_kZ kz Q.tp + kZ + pZc Q kz ≤ 4262944 := t3
    have uq : ∀ n', n' < 4 → p = nI n' → n' = n := fun n' h1 h2 => nI_ij h2 n2 (by omega) (by omega)
    refine ⟨kC, kZ, fun n' h1 h2 => ?_, ⟨?_, ?_⟩, fun n' h1 h2 d Q1 hd => ?_⟩
    · have := uq n' h1 h2
      subst this
      exact t1
    · rw [nc_it w]; omega
    · rw [nc_it w]; omega
    · have := uq n' h1 h2
      subst this
      obtain ⟨t5, t6⟩ := t4 d Q1 hd
      have t5 : nc_kC kz Q.tp + kC + pCc Q kz ≤ pCc (Q1.sTp []) (nc_tK kz Q.tp) + 9 := t5
      have t6 : nc_kZ kz Q.tp + kZ + pZc Q kz ≤ pZc (Q1.sTp []) (nc_tK kz Q.tp) := t6
      rw [nc_it w, nc_it w]
      exact ⟨by omega, by omega⟩
  · refine ⟨0, 0, fun n' h1 h2 => absurd ⟨n', h1, h2⟩ w, ⟨?_, ?_⟩, fun n' h1 h2 => absurd ⟨n', h1, h2⟩ w⟩
    · rw [nc_in w]; omega
    · rw [nc_in w]; omega
theorem rl_gh (p : Int32) (hI : LIv Q R) (hsB : ∀ b ∈ Q.tp, b < 256) (hsl : Q.tp.length ≤ 32768) (hK : LIk kz k2) : ∃ aC aZ bC bZ kC kZ, ldG R k2 p aC aZ bC bZ kC kZ ∧ ((2 + (aC + bC + kC)) + pCr R k2 ≤ 213492 ∧ (12 + (aZ + bZ + kZ)) + pZr R k2 ≤ 1085344) ∧ (∀ n R' k21 f c', n < 4 → p = nI n → rdX (ldR R) n R.Q.tp k2 R' k21 f c' → ((2 + (aC + bC + kC)) + pCr R k2 ≤ pCr (R'.sQ (R'.Q.sFt f)) k21 + 500 ∧ (12 + (aZ + bZ + kZ)) + pZr R k2 ≤ pZr (R'.sQ (R'.Q.sFt f)) k21 + 4000) ∧ ∀ kz', LIk kz' k2 → LIk kz' k21) ∧ ((¬ ∃ n, n < 4 ∧ p = nI n) → aC + bC + kC = 0 ∧ aZ + bZ + kZ = 0) := by
  obtain ⟨eG, eT, eK, etp, esl, -⟩ := id hI.1
  have hg : ∀ p, p < 4 → (R.Q.G p).ok := fun p hp => by rw [eG]; exact (hI.2.2.2.1 p hp).1.1
  obtain ⟨q1, q2⟩ := pr_b hg hK.2.2.2.2.1 hK.2.2.2.2.2.2.1 hK.2.2.2.2.2.2.2.1 hK.2.2.2.2.2.2.2.2.1.1
  by_cases w : ∃ n, n < 4 ∧ p = nI n
  · obtain ⟨n, n1, n2⟩ := id w
    have gt : GT (R.Q.G n) (R.Q.T n) := by rw [eG, eT]; exact (hI.2.2.2.1 n n1).1
    obtain ⟨aC, aZ, bC, bZ, kC, kZ, t1, ⟨t2, t3⟩, t4⟩ := rd_c (R := ldR R) (B := R.Q.tp) n1 hg gt (by rw [etp]; exact hsB) (by rw [etp]; exact hsl) hK
    have t2 : aC + bC + kC + pCr R k2 ≤ 212992 := t2
    have t3 : aZ + bZ + kZ + pZr R k2 ≤ 1081344 := t3
    have uq : ∀ n', n' < 4 → p = nI n' → n' = n := fun n' h1 h2 => nI_ij h2 n2 (by omega) (by omega)
    refine ⟨aC, aZ, bC, bZ, kC, kZ, fun n' a1 a2 => ?_, ⟨by omega, by omega⟩, fun n' R' k21 f c' a1 a2 hx => ?_, fun q => absurd w q⟩
    · have := uq n' a1 a2
      subst this
      exact t1
    · have := uq n' a1 a2
      subst this
      obtain ⟨u1, u2, u3⟩ := t4 R' k21 f c' hx
      have u1 : aC + bC + kC + pCr R k2 ≤ pCr (R'.sQ (R'.Q.sFt f)) k21 := u1
      have u2 : aZ + bZ + kZ + pZr R k2 ≤ pZr (R'.sQ (R'.Q.sFt f)) k21 := u2
      exact ⟨⟨by omega, by omega⟩, u3⟩
  · exact ⟨0, 0, 0, 0, 0, 0, fun n' a1 a2 => absurd ⟨n', a1, a2⟩ w, ⟨by omega, by omega⟩, fun n' R' k21 f c' a1 a2 => absurd ⟨n', a1, a2⟩ w, fun _ => ⟨rfl, rfl⟩⟩
theorem ag_ld (hI : LIv Q R) (hsB : ∀ b ∈ Q.tp, b < 256) (hc : ((∃ n d Q0, n < 4 ∧ p = nI n ∧ dlv (Q.sFo 1) n Q.tp d Q0 ∧ c = fthr Q0.ft ∧ (c = 0 → v = nI d) ∧ Q1 = Q0.sTp []) ∨ (c = 1 ∧ np 4 p ∧ Q1 = Q))) (hr : ((∃ n f R' c', n < 4 ∧ p = nI n ∧ rdX (ldR R) n R.Q.tp k2 R' k21 f c' ∧ v' = (if f = 0 then nI c' else 0) ∧ th = fthr f ∧ R1 = R'.sQ (R'.Q.sFt f)) ∨ (th = 1 ∧ np 4 p ∧ R1 = R))) : th = c ∧ (c = 0 → v' = v) ∧ LIv Q1 R1 := by
  have etp : R.Q.tp = Q.tp := by obtain ⟨eG, eT, eK, etp, -⟩ := id hI.1; exact etp
  rw [etp] at hr
  rcases hc with ⟨n, d, Q0, h1, h2, h3, h4, h5, rfl⟩ | ⟨h0, h1, rfl⟩ <;> rcases hr with ⟨n', f, R', c', g1, g2, g6, g7, g8, rfl⟩ | ⟨g0, g1, rfl⟩
  · have e := nI_ij h2 g2 (by omega) (by omega)
    subst e
    rw [h4] at h5
    obtain ⟨a1, a2, a3⟩ := ag_rdl (v := v) (Q1 := Q0.sTp []) hI.ld h1 hsB (fun hf => absurd hf (by show ¬ (1 = 0); decide)) (dlv_tp [] h3) g6 h5 g7
    have a1 : fthr f = fthr Q0.ft := a1
    have a2 : fthr Q0.ft = 0 → v' = v := a2
    exact ⟨by rw [g8, h4, a1], fun w => a2 (by rw [← h4]; exact w), a3⟩
  · exact (np_no g1 h1 h2).elim
  · exact (np_no h1 g1 g2).elim
  · exact ⟨by omega, fun q => by omega, hI⟩
end TKL
set_option maxRecDepth 100000 in
set_option maxHeartbeats 2000000 in
theorem lwc_tk {r k : Nat} {A : List Int32} {lo : List (Nat × MV)} {st : List MV} {S1 : MM} {cs sl : Nat} (h : I_lc r A k lo st S1 cs sl) : GoL k r A 1722 lo st S1 cs sl := by
  obtain ⟨jn, t, m, o, F, X, kz, Q, z, Y, R, k2, hk, hj, hA, ⟨hL, hI, hK, hcs, hsl⟩, rfl, rfl⟩ := h
  refine ⟨300, ?_⟩
  show (∃ v_1 : Int32, (r = r ∧ vp_in ((nI (6 * jn)) + (1 : Int32)) A.length ∧ v_1 = A.getD ((nI (6 * jn)) + (1 : Int32)).toNatClampNeg 0) ∧ (∃ v_2 : Int32, (r = r ∧ vp_in ((nI (6 * jn)) + (2 : Int32)) A.length ∧ v_2 = A.getD ((nI (6 * jn)) + (2 : Int32)).toNatClampNeg 0) ∧ (2 = 2 ∧ (∃ (F_3 : Nat → Nat × Nat) (X_4 : Nat → GX) (kz_5 : Nat → Nat) (Q_6 : Ab) (kC_7 kZ_8 : Nat), ((WT S1 F_3 t X_4 kz_5 Q_6 ∧ tkB Q_6 v_1 v_2 kC_7 kZ_8) ∧ lwO S1 F_3 o) ∧ cs + (nc_i (∃ n i, tkA Q_6 v_1 v_2 n i ∧ Q_6.sl i ≠ []) (nc_kC kz_5 (Q_6.sl v_2.toNatClampNeg) + kC_7) + 4) ≤ 600128 ∧ sl + (nc_i (∃ n i, tkA Q_6 v_1 v_2 n i ∧ Q_6.sl i ≠ []) (nc_kZ kz_5 (Q_6.sl v_2.toNatClampNeg) + kZ_8) + 24) ≤ 7301098 ∧ (∀ (x_10 : Int32) (S_9 : MM), ((x_10 = 0 ∧ ∃ (v0 : Int32) (S0 : MM), (∃ n i c, tkA Q_6 v_1 v_2 n i ∧ Q_6.sl i ≠ [] ∧ v0 = nI c ∧ c ≤ 8192 ∧ tkR S1 S0 F_3 t kz_5 Q_6 n (Q_6.sl i) (fun f => f = 0) id c) ∧ S_9 = loJ S0 o v0.toInt64) ∨ (x_10 = 1 ∧ S_9 = S1 ∧ (np 4 v_1 ∨ np 8 v_2)) ∨ (x_10 = 2 ∧ S_9 = S1 ∧ (∃ n i, tkA Q_6 v_1 v_2 n i ∧ Q_6.sl i = [])) ∨ (x_10 = 2 ∧ (∃ n i c, tkA Q_6 v_1 v_2 n i ∧ Q_6.sl i ≠ [] ∧ tkR S1 S_9 F_3 t kz_5 Q_6 n (Q_6.sl i) (fun f => f = 5) id c)) ∨ (x_10 = 3 ∧ (∃ n i c, tkA Q_6 v_1 v_2 n i ∧ Q_6.sl i ≠ [] ∧ tkR S1 S_9 F_3 t kz_5 Q_6 n (Q_6.sl i) (fun f => f = 6) id c)) ∨ (x_10 = 4 ∧ (∃ n i c, tkA Q_6 v_1 v_2 n i ∧ Q_6.sl i ≠ [] ∧ tkR S1 S_9 F_3 t kz_5 Q_6 n (Q_6.sl i) (fun f => f = 7) id c)) ∨ (x_10 = 1 ∧ (∃ n i c, tkA Q_6 v_1 v_2 n i ∧ Q_6.sl i ≠ [] ∧ tkR S1 S_9 F_3 t kz_5 Q_6 n (Q_6.sl i) (fun f => 1 ≤ f ∧ f ≤ 4) id c))) → (∃ v_11 : Int32, (r = r ∧ vp_in ((nI (6 * jn)) + (1 : Int32)) A.length ∧ v_11 = A.getD ((nI (6 * jn)) + (1 : Int32)).toNatClampNeg 0) ∧ (∃ v_12 : Int32, (r = r ∧ vp_in ((nI (6 * jn)) + (2 : Int32)) A.length ∧ v_12 = A.getD ((nI (6 * jn)) + (2 : Int32)).toNatClampNeg 0) ∧ (0 = 0 ∧ (∃ (F_13 : Nat → Nat × Nat) (z_14 : Nat → Nat) (Y_15 : Nat → Nat → Nat) (R_16 : Rb) (kz_17 : Nat → Nat) (aC_18 aZ_19 bC_20 bZ_21 kC_22 kZ_23 : Nat), (MD S_9 F_13 m z_14 Y_15 R_16 kz_17 ∧ AbC R_16 ∧ kz_17 40 ≤ 16384 ∧ tkG R_16 kz_17 v_11 v_12 aC_18 aZ_19 bC_20 bZ_21 kC_22 kZ_23) ∧ cs + (nc_i (∃ n i, tkA Q_6 v_1 v_2 n i ∧ Q_6.sl i ≠ []) (nc_kC kz_5 (Q_6.sl v_2.toNatClampNeg) + kC_7) + 4) + (4 + (aC_18 + bC_20 + kC_22)) ≤ 600128 ∧ sl + (nc_i (∃ n i, tkA Q_6 v_1 v_2 n i ∧ Q_6.sl i ≠ []) (nc_kZ kz_5 (Q_6.sl v_2.toNatClampNeg) + kZ_8) + 24) + (24 + (aZ_19 + bZ_21 + kZ_23)) ≤ 7301098 ∧ (∀ (x_25 : Int32) (S_24 : MM), (tkW S_9 S_24 F_13 m R_16 kz_17 v_11 v_12 x_25 ∨ ((np 4 v_11 ∨ np 8 v_12) ∧ x_25 = 0 ∧ mdW S_9 S_24 F_13 m R_16 kz_17 1) ∨ ((∃ n i, n < 4 ∧ v_11 = nI n ∧ i < 8 ∧ v_12 = nI i ∧ R_16.Q.sl i = []) ∧ x_25 = 0 ∧ mdW S_9 S_24 F_13 m R_16 kz_17 2)) → (0 = 0 ∧ (∃ (v9_26 : Int32), (isO S_24 15 m ∧ mI S_24 1551 m = v9_26) ∧ cs + (nc_i (∃ n i, tkA Q_6 v_1 v_2 n i ∧ Q_6.sl i ≠ []) (nc_kC kz_5 (Q_6.sl v_2.toNatClampNeg) + kC_7) + 4) + (4 + (aC_18 + bC_20 + kC_22)) ≤ 600128 ∧ sl + (nc_i (∃ n i, tkA Q_6 v_1 v_2 n i ∧ Q_6.sl i ≠ []) (nc_kZ kz_5 (Q_6.sl v_2.toNatClampNeg) + kZ_8) + 24) + (24 + (aZ_19 + bZ_21 + kZ_23)) ≤ 7301098 ∧ (((v9_26 = x_10 → ((¬ x_10 = 0 → (∃ k1, k1 < k ∧ I_nx r A k1 [(0, .inr (.inr (some r))), (1, .inr (.inr (some t))), (2, .inr (.inr (some m))), (3, .inr (.inr (some o))), (4, .inl (nI (6 * jn)))] [] S_24 (cs + (nc_i (∃ n i, tkA Q_6 v_1 v_2 n i ∧ Q_6.sl i ≠ []) (nc_kC kz_5 (Q_6.sl v_2.toNatClampNeg) + kC_7) + 4) + (4 + (aC_18 + bC_20 + kC_22))) (sl + (nc_i (∃ n i, tkA Q_6 v_1 v_2 n i ∧ Q_6.sl i ≠ []) (nc_kZ kz_5 (Q_6.sl v_2.toNatClampNeg) + kZ_8) + 24) + (24 + (aZ_19 + bZ_21 + kZ_23))))) ∧ (x_10 = 0 → (isO S_24 18 o ∧ inR S_24 o (0 : Int32) ∧ (((lg_cmp (eJ S_24 o (0 : Int32).toNatClampNeg) x_25.toInt64) = 0 → (∃ k1, k1 < k ∧ I_nx r A k1 [(0, .inr (.inr (some r))), (1, .inr (.inr (some t))), (2, .inr (.inr (some m))), (3, .inr (.inr (some o))), (4, .inl (nI (6 * jn)))] [] S_24 (cs + (nc_i (∃ n i, tkA Q_6 v_1 v_2 n i ∧ Q_6.sl i ≠ []) (nc_kC kz_5 (Q_6.sl v_2.toNatClampNeg) + kC_7) + 4) + (4 + (aC_18 + bC_20 + kC_22))) (sl + (nc_i (∃ n i, tkA Q_6 v_1 v_2 n i ∧ Q_6.sl i ≠ []) (nc_kZ kz_5 (Q_6.sl v_2.toNatClampNeg) + kZ_8) + 24) + (24 + (aZ_19 + bZ_21 + kZ_23))))) ∧ (¬ (lg_cmp (eJ S_24 o (0 : Int32).toNatClampNeg) x_25.toInt64) = 0 → (([] : List MV) = [] ∧ retL (some (.inl (0 : Int32))) S_24 (cs + (nc_i (∃ n i, tkA Q_6 v_1 v_2 n i ∧ Q_6.sl i ≠ []) (nc_kC kz_5 (Q_6.sl v_2.toNatClampNeg) + kC_7) + 4) + (4 + (aC_18 + bC_20 + kC_22))) (sl + (nc_i (∃ n i, tkA Q_6 v_1 v_2 n i ∧ Q_6.sl i ≠ []) (nc_kZ kz_5 (Q_6.sl v_2.toNatClampNeg) + kZ_8) + 24) + (24 + (aZ_19 + bZ_21 + kZ_23)))))))))) ∧ (¬ v9_26 = x_10 → (([] : List MV) = [] ∧ retL (some (.inl (0 : Int32))) S_24 (cs + (nc_i (∃ n i, tkA Q_6 v_1 v_2 n i ∧ Q_6.sl i ≠ []) (nc_kC kz_5 (Q_6.sl v_2.toNatClampNeg) + kC_7) + 4) + (4 + (aC_18 + bC_20 + kC_22))) (sl + (nc_i (∃ n i, tkA Q_6 v_1 v_2 n i ∧ Q_6.sl i ≠ []) (nc_kZ kz_5 (Q_6.sl v_2.toNatClampNeg) + kZ_8) + 24) + (24 + (aZ_19 + bZ_21 + kZ_23)))))))))))))))))))
  obtain ⟨rc, rs⟩ := room_le hL.1 hI hK (show jn ≤ 64 by omega) hcs hsl
  have hB : BdQ Q := hI.1.bd hL.2.1.bd
  obtain ⟨eG, eT, eK, etp, esl, eft, efo, emp, evw, ehu, eap, ean⟩ := id hI.1
  have hsB : ∀ i, i < 8 → ∀ b ∈ Q.sl i, b < 256 := hL.1.kb.2.2.2.2.2.2.2.2.1
  have hsl2 : ∀ i, i < 8 → (Q.sl i).length ≤ 32768 := hB.2.2.1
  obtain ⟨kC, kZ, tB, pre, post⟩ := tk_gh (A.getD (6 * jn + 1) 0) (A.getD (6 * jn + 2) 0) hL.1 hI hK
  obtain ⟨aC, aZ, bC, bZ, rC, rZ, rB, rpre, rpost, rzero⟩ := rk_gh (A.getD (6 * jn + 1) 0) (A.getD (6 * jn + 2) 0) hI hsB hsl2 hK
  have fit := fit_x hI hK (show jn ≤ 63 by omega) hcs hsl pre.1 pre.2
  have fr := fit_y (show jn ≤ 63 by omega) hcs hsl pre.1 pre.2 rpre.1 rpre.2
  have bad : ¬ (∃ n i, tkA Q (A.getD (6 * jn + 1) 0) (A.getD (6 * jn + 2) 0) n i ∧ Q.sl i ≠ []) → ((nc_i (∃ n i, tkA Q (A.getD (6 * jn + 1) 0) (A.getD (6 * jn + 2) 0) n i ∧ Q.sl i ≠ []) (nc_kC kz (Q.sl (A.getD (6 * jn + 2) 0).toNatClampNeg) + kC) + 4) + pCc Q kz ≤ pCc Q kz + 500 ∧ (nc_i (∃ n i, tkA Q (A.getD (6 * jn + 1) 0) (A.getD (6 * jn + 2) 0) n i ∧ Q.sl i ≠ []) (nc_kZ kz (Q.sl (A.getD (6 * jn + 2) 0).toNatClampNeg) + kZ) + 24) + pZc Q kz ≤ pZc Q kz + 4000) := fun w => by
    rw [nc_in w, nc_in w]; omega
  have bn : (np 4 (A.getD (6 * jn + 1) 0) ∨ np 8 (A.getD (6 * jn + 2) 0)) → ¬ (∃ n i, tkA Q (A.getD (6 * jn + 1) 0) (A.getD (6 * jn + 2) 0) n i ∧ Q.sl i ≠ []) := fun w ⟨n, i, h, _⟩ => w.elim (fun w => np_no w h.1 h.2.1) (fun w => np_no w h.2.2.1 h.2.2.2)
  refine ⟨_, hL.rd (k := 1) (by decide) (by omega) hA, _, hL.rd (k := 2) (by decide) (by omega) hA, rfl, F, X, kz, Q, kC, kZ, ⟨⟨hL.1, tB⟩, hL.lwo⟩, by omega, by omega, fun x9 S6 hq => ?_⟩
  have key : ∃ (c : Nat) (v : Int32) (Q1 : Ab) (X1 : Nat → GX) (kz1 : Nat → Nat) (F6 : Nat → Nat × Nat), x9 = nI c ∧ c < 8 ∧ ((∃ n i d, tkA Q (A.getD (6 * jn + 1) 0) (A.getD (6 * jn + 2) 0) n i ∧ Q.sl i ≠ [] ∧ dlv Q n (Q.sl i) d Q1 ∧ c = fthr Q1.ft ∧ (c = 0 → v = nI d)) ∨ (c = 1 ∧ (np 4 (A.getD (6 * jn + 1) 0) ∨ np 8 (A.getD (6 * jn + 2) 0)) ∧ Q1 = Q) ∨ (c = 2 ∧ (∃ n i, tkA Q (A.getD (6 * jn + 1) 0) (A.getD (6 * jn + 2) 0) n i ∧ Q.sl i = []) ∧ Q1 = Q)) ∧ (((nc_i (∃ n i, tkA Q (A.getD (6 * jn + 1) 0) (A.getD (6 * jn + 2) 0) n i ∧ Q.sl i ≠ []) (nc_kC kz (Q.sl (A.getD (6 * jn + 2) 0).toNatClampNeg) + kC) + 4) + pCc Q kz ≤ pCc Q1 kz1 + 500) ∧ ((nc_i (∃ n i, tkA Q (A.getD (6 * jn + 1) 0) (A.getD (6 * jn + 2) 0) n i ∧ Q.sl i ≠ []) (nc_kZ kz (Q.sl (A.getD (6 * jn + 2) 0).toNatClampNeg) + kZ) + 24) + pZc Q kz ≤ pZc Q1 kz1 + 4000) ∧ LIk kz1 k2) ∧ Lw S6 F6 t m o r A X1 kz1 Q1 z Y R k2 ∧ (x9 = 0 → eJ S6 o 0 = v.toInt64) := by
    rcases hq with ⟨rfl, v0, S0, ⟨n, i, d, q0, q1, q2, q3, Q1, X1, hd, hf, gW⟩, rfl⟩ | ⟨rfl, rfl, h1⟩ | ⟨rfl, rfl, n, i, h1, h2⟩ | ⟨rfl, n, i, d, q0, q1, Q1, X1, hd, hf, gW⟩ | ⟨rfl, n, i, d, q0, q1, Q1, X1, hd, hf, gW⟩ | ⟨rfl, n, i, d, q0, q1, Q1, X1, hd, hf, gW⟩ | ⟨rfl, n, i, d, q0, q1, Q1, X1, hd, hf, gW⟩
    · have gW : wtQ S1 S0 F t X1 (nc_tK kz (Q.sl i)) Q1 := gW
      have hf : Q1.ft = 0 := hf
      obtain ⟨F6, g1, g2⟩ := hL.ok (v := v0.toInt64) gW
      obtain ⟨g3, g4⟩ := post n i q0 q1 d Q1 hd
      exact ⟨0, v0, Q1, X1, _, F6, rfl, by decide, Or.inl ⟨n, i, d, q0, q1, hd, by rw [hf]; rfl, fun _ => q2⟩, ⟨g3, g4, hK.up (by omega)⟩, g1, fun _ => g2⟩
    · obtain ⟨g1, g2⟩ := bad (bn h1)
      exact ⟨1, 0, Q, X, kz, F, rfl, by decide, Or.inr (Or.inl ⟨rfl, h1, rfl⟩), ⟨g1, g2, hK⟩, hL, fun w => absurd w (by decide)⟩
    · obtain ⟨g1, g2⟩ := bad (fun ⟨n', i', a1, a2⟩ => by
        have e := nI_ij h1.2.2.2 a1.2.2.2 (by have := h1.2.2.1; omega) (by have := a1.2.2.1; omega)
        subst e
        exact a2 h2)
      exact ⟨2, 0, Q, X, kz, F, rfl, by decide, Or.inr (Or.inr ⟨rfl, ⟨n, i, h1, h2⟩, rfl⟩), ⟨g1, g2, hK⟩, hL, fun w => absurd w (by decide)⟩
    · have gW : wtQ S1 S6 F t X1 (nc_tK kz (Q.sl i)) Q1 := gW
      have hf : Q1.ft = 5 := hf
      obtain ⟨F6, g1, -, -⟩ := hL.cls gW
      obtain ⟨g3, g4⟩ := post n i q0 q1 d Q1 hd
      exact ⟨2, 0, Q1, X1, _, F6, rfl, by decide, Or.inl ⟨n, i, d, q0, q1, hd, by rw [hf]; rfl, fun w => absurd w (by decide)⟩, ⟨g3, g4, hK.up (by omega)⟩, g1, fun w => absurd w (by decide)⟩
    · have gW : wtQ S1 S6 F t X1 (nc_tK kz (Q.sl i)) Q1 := gW
      have hf : Q1.ft = 6 := hf
      obtain ⟨F6, g1, -, -⟩ := hL.cls gW
      obtain ⟨g3, g4⟩ := post n i q0 q1 d Q1 hd
      exact ⟨3, 0, Q1, X1, _, F6, rfl, by decide, Or.inl ⟨n, i, d, q0, q1, hd, by rw [hf]; rfl, fun w => absurd w (by decide)⟩, ⟨g3, g4, hK.up (by omega)⟩, g1, fun w => absurd w (by decide)⟩
    · have gW : wtQ S1 S6 F t X1 (nc_tK kz (Q.sl i)) Q1 := gW
      have hf : Q1.ft = 7 := hf
      obtain ⟨F6, g1, -, -⟩ := hL.cls gW
      obtain ⟨g3, g4⟩ := post n i q0 q1 d Q1 hd
      exact ⟨4, 0, Q1, X1, _, F6, rfl, by decide, Or.inl ⟨n, i, d, q0, q1, hd, by rw [hf]; rfl, fun w => absurd w (by decide)⟩, ⟨g3, g4, hK.up (by omega)⟩, g1, fun w => absurd w (by decide)⟩
    · have gW : wtQ S1 S6 F t X1 (nc_tK kz (Q.sl i)) Q1 := gW
      have hf : 1 ≤ Q1.ft ∧ Q1.ft ≤ 4 := hf
      obtain ⟨F6, g1, -, -⟩ := hL.cls gW
      obtain ⟨g3, g4⟩ := post n i q0 q1 d Q1 hd
      exact ⟨1, 0, Q1, X1, _, F6, rfl, by decide, Or.inl ⟨n, i, d, q0, q1, hd, fthr_1 hf, fun w => absurd w (by decide)⟩, ⟨g3, g4, hK.up (by omega)⟩, g1, fun w => absurd w (by decide)⟩
  obtain ⟨c, v, Q1, X1, kz1, F6, hx, hc8, hc, ⟨p1, p2, hK1⟩, hL6, hv⟩ := key
  refine ⟨_, hL6.rd (k := 1) (by decide) (by omega) hA, _, hL6.rd (k := 2) (by decide) (by omega) hA, rfl, F6, z, Y, R, k2, aC, aZ, bC, bZ, rC, rZ, ⟨hL6.2.1, hI.abc, hK.2.2.2.2.1, rB⟩, by omega, by omega, fun v9 S9 hr => ?_⟩
  have key2 : ∃ (th : Nat) (R1 : Rb) (k21 : Nat → Nat), ((∃ n i f R' c', n < 4 ∧ (A.getD (6 * jn + 1) 0) = nI n ∧ i < 8 ∧ (A.getD (6 * jn + 2) 0) = nI i ∧ R.Q.sl i ≠ [] ∧ rdX R n (R.Q.sl i) k2 R' k21 f c' ∧ v9 = (if f = 0 then nI c' else 0) ∧ th = fthr f ∧ R1 = R'.sQ (R'.Q.sFt f)) ∨ (th = 1 ∧ (np 4 (A.getD (6 * jn + 1) 0) ∨ np 8 (A.getD (6 * jn + 2) 0)) ∧ R1 = R) ∨ (th = 2 ∧ (∃ n i, n < 4 ∧ (A.getD (6 * jn + 1) 0) = nI n ∧ i < 8 ∧ (A.getD (6 * jn + 2) 0) = nI i ∧ R.Q.sl i = []) ∧ R1 = R)) ∧ ((4 + (aC + bC + rC)) + pCr R k2 ≤ pCr R1 k21 + 500 ∧ (24 + (aZ + bZ + rZ)) + pZr R k2 ≤ pZr R1 k21 + 4000) ∧ (∀ kz', LIk kz' k2 → LIk kz' k21) ∧ mdW S6 S9 F6 m R1 k21 th := by
    rcases hr with ⟨n, i, q0, q1, q2, q3, q4, f, R', k21, c', g1, g2, g3, g4, gW⟩ | ⟨h1, q1, gW⟩ | ⟨⟨n, i, q0, q1, q2, q3, q4⟩, q5, gW⟩
    · obtain ⟨u1, u2⟩ := rpost n i R' k21 f c' q0 q1 q2 q3 q4 g1
      exact ⟨fthr f, _, k21, Or.inl ⟨n, i, f, R', c', q0, q1, q2, q3, q4, g1, g4, rfl, rfl⟩, u1, u2, gW⟩
    · obtain ⟨z1, z2⟩ := rzero (fun ⟨n, i, a1, a2, a3, a4, a5⟩ => h1.elim (fun w => np_no w a1 a2) (fun w => np_no w a3 a4))
      exact ⟨1, R, k2, Or.inr (Or.inl ⟨rfl, h1, rfl⟩), ⟨by omega, by omega⟩, fun _ q => q, gW⟩
    · obtain ⟨z1, z2⟩ := rzero (fun ⟨n', i', a1, a2, a3, a4, a5⟩ => by
        have e := nI_ij q3 a4 (by omega) (by omega)
        subst e
        exact a5 q4)
      exact ⟨2, R, k2, Or.inr (Or.inr ⟨rfl, ⟨n, i, q0, q1, q2, q3, q4⟩, rfl⟩), ⟨by omega, by omega⟩, fun _ q => q, gW⟩
  obtain ⟨th, R1, k21, hr, ⟨r1, r2⟩, hKt, hw⟩ := key2
  obtain ⟨F9, z9, Y9, hL9, hth, -, hj9⟩ := hL6.ref hw
  obtain ⟨a1, a2, hI1⟩ := ag_tk hI hsB hc hr
  refine lw_cmp hL9 (by rw [hth, a1, ← hx]) (fun w => ?_) (by omega) (by omega) (nx_k hk hj hA hL9 hI1 (hKt kz1 hK1) hcs hsl p1 p2 r1 r2 (by omega) (by omega))
  rw [hj9, hv w, a2 (nI_z hc8 (hx.symm.trans w))]
set_option maxRecDepth 100000 in
set_option maxHeartbeats 2000000 in
theorem lwc_ld {r k : Nat} {A : List Int32} {lo : List (Nat × MV)} {st : List MV} {S1 : MM} {cs sl : Nat} (h : I_lc r A k lo st S1 cs sl) : GoL k r A 1790 lo st S1 cs sl := by
  obtain ⟨jn, t, m, o, F, X, kz, Q, z, Y, R, k2, hk, hj, hA, ⟨hL, hI, hK, hcs, hsl⟩, rfl, rfl⟩ := h
  refine ⟨300, ?_⟩
  show (∃ v_1 : Int32, (r = r ∧ vp_in ((nI (6 * jn)) + (1 : Int32)) A.length ∧ v_1 = A.getD ((nI (6 * jn)) + (1 : Int32)).toNatClampNeg 0) ∧ (2 = 2 ∧ (∃ (F_2 : Nat → Nat × Nat) (X_3 : Nat → GX) (kz_4 : Nat → Nat) (Q_5 : Ab) (kC_6 kZ_7 : Nat), ((WT S1 F_2 t X_3 kz_4 Q_5 ∧ ldB Q_5 v_1 kC_6 kZ_7) ∧ lwO S1 F_2 o) ∧ cs + (nc_i (∃ n, n < 4 ∧ v_1 = nI n) (nc_kC kz_4 Q_5.tp + kC_6) + 2) ≤ 600128 ∧ sl + (nc_i (∃ n, n < 4 ∧ v_1 = nI n) (nc_kZ kz_4 Q_5.tp + kZ_7) + 12) ≤ 7301098 ∧ (∀ (x_9 : Int32) (S_8 : MM), ((x_9 = 0 ∧ ∃ (v0 : Int32) (S0 : MM), (∃ n c, n < 4 ∧ v_1 = nI n ∧ v0 = nI c ∧ c ≤ 8192 ∧ tkR S1 S0 F_2 t kz_4 (Q_5.sFo 1) n Q_5.tp (fun f => f = 0) noT c) ∧ S_8 = loJ S0 o v0.toInt64) ∨ (x_9 = 1 ∧ S_8 = S1 ∧ (np 4 v_1)) ∨ (x_9 = 2 ∧ (∃ n c, n < 4 ∧ v_1 = nI n ∧ tkR S1 S_8 F_2 t kz_4 (Q_5.sFo 1) n Q_5.tp (fun f => f = 5) noT c)) ∨ (x_9 = 3 ∧ (∃ n c, n < 4 ∧ v_1 = nI n ∧ tkR S1 S_8 F_2 t kz_4 (Q_5.sFo 1) n Q_5.tp (fun f => f = 6) noT c)) ∨ (x_9 = 4 ∧ (∃ n c, n < 4 ∧ v_1 = nI n ∧ tkR S1 S_8 F_2 t kz_4 (Q_5.sFo 1) n Q_5.tp (fun f => f = 7) noT c)) ∨ (x_9 = 1 ∧ (∃ n c, n < 4 ∧ v_1 = nI n ∧ tkR S1 S_8 F_2 t kz_4 (Q_5.sFo 1) n Q_5.tp (fun f => 1 ≤ f ∧ f ≤ 4) noT c))) → (∃ v_10 : Int32, (r = r ∧ vp_in ((nI (6 * jn)) + (1 : Int32)) A.length ∧ v_10 = A.getD ((nI (6 * jn)) + (1 : Int32)).toNatClampNeg 0) ∧ (0 = 0 ∧ (∃ (F_11 : Nat → Nat × Nat) (z_12 : Nat → Nat) (Y_13 : Nat → Nat → Nat) (R_14 : Rb) (kz_15 : Nat → Nat) (aC_16 aZ_17 bC_18 bZ_19 kC_20 kZ_21 : Nat), (MD S_8 F_11 m z_12 Y_13 R_14 kz_15 ∧ AbC R_14 ∧ kz_15 40 ≤ 16384 ∧ ldG R_14 kz_15 v_10 aC_16 aZ_17 bC_18 bZ_19 kC_20 kZ_21) ∧ cs + (nc_i (∃ n, n < 4 ∧ v_1 = nI n) (nc_kC kz_4 Q_5.tp + kC_6) + 2) + (2 + (aC_16 + bC_18 + kC_20)) ≤ 600128 ∧ sl + (nc_i (∃ n, n < 4 ∧ v_1 = nI n) (nc_kZ kz_4 Q_5.tp + kZ_7) + 12) + (12 + (aZ_17 + bZ_19 + kZ_21)) ≤ 7301098 ∧ (∀ (x_23 : Int32) (S_22 : MM), (ldW S_8 S_22 F_11 m R_14 kz_15 v_10 x_23 ∨ ((np 4 v_10) ∧ x_23 = 0 ∧ mdW S_8 S_22 F_11 m R_14 kz_15 1)) → (0 = 0 ∧ (∃ (v9_24 : Int32), (isO S_22 15 m ∧ mI S_22 1551 m = v9_24) ∧ cs + (nc_i (∃ n, n < 4 ∧ v_1 = nI n) (nc_kC kz_4 Q_5.tp + kC_6) + 2) + (2 + (aC_16 + bC_18 + kC_20)) ≤ 600128 ∧ sl + (nc_i (∃ n, n < 4 ∧ v_1 = nI n) (nc_kZ kz_4 Q_5.tp + kZ_7) + 12) + (12 + (aZ_17 + bZ_19 + kZ_21)) ≤ 7301098 ∧ (((v9_24 = x_9 → ((¬ x_9 = 0 → (∃ k1, k1 < k ∧ I_nx r A k1 [(0, .inr (.inr (some r))), (1, .inr (.inr (some t))), (2, .inr (.inr (some m))), (3, .inr (.inr (some o))), (4, .inl (nI (6 * jn)))] [] S_22 (cs + (nc_i (∃ n, n < 4 ∧ v_1 = nI n) (nc_kC kz_4 Q_5.tp + kC_6) + 2) + (2 + (aC_16 + bC_18 + kC_20))) (sl + (nc_i (∃ n, n < 4 ∧ v_1 = nI n) (nc_kZ kz_4 Q_5.tp + kZ_7) + 12) + (12 + (aZ_17 + bZ_19 + kZ_21))))) ∧ (x_9 = 0 → (isO S_22 18 o ∧ inR S_22 o (0 : Int32) ∧ (((lg_cmp (eJ S_22 o (0 : Int32).toNatClampNeg) x_23.toInt64) = 0 → (∃ k1, k1 < k ∧ I_nx r A k1 [(0, .inr (.inr (some r))), (1, .inr (.inr (some t))), (2, .inr (.inr (some m))), (3, .inr (.inr (some o))), (4, .inl (nI (6 * jn)))] [] S_22 (cs + (nc_i (∃ n, n < 4 ∧ v_1 = nI n) (nc_kC kz_4 Q_5.tp + kC_6) + 2) + (2 + (aC_16 + bC_18 + kC_20))) (sl + (nc_i (∃ n, n < 4 ∧ v_1 = nI n) (nc_kZ kz_4 Q_5.tp + kZ_7) + 12) + (12 + (aZ_17 + bZ_19 + kZ_21))))) ∧ (¬ (lg_cmp (eJ S_22 o (0 : Int32).toNatClampNeg) x_23.toInt64) = 0 → (([] : List MV) = [] ∧ retL (some (.inl (0 : Int32))) S_22 (cs + (nc_i (∃ n, n < 4 ∧ v_1 = nI n) (nc_kC kz_4 Q_5.tp + kC_6) + 2) + (2 + (aC_16 + bC_18 + kC_20))) (sl + (nc_i (∃ n, n < 4 ∧ v_1 = nI n) (nc_kZ kz_4 Q_5.tp + kZ_7) + 12) + (12 + (aZ_17 + bZ_19 + kZ_21)))))))))) ∧ (¬ v9_24 = x_9 → (([] : List MV) = [] ∧ retL (some (.inl (0 : Int32))) S_22 (cs + (nc_i (∃ n, n < 4 ∧ v_1 = nI n) (nc_kC kz_4 Q_5.tp + kC_6) + 2) + (2 + (aC_16 + bC_18 + kC_20))) (sl + (nc_i (∃ n, n < 4 ∧ v_1 = nI n) (nc_kZ kz_4 Q_5.tp + kZ_7) + 12) + (12 + (aZ_17 + bZ_19 + kZ_21)))))))))))))))))
  obtain ⟨rc, rs⟩ := room_le hL.1 hI hK (show jn ≤ 64 by omega) hcs hsl
  have hB : BdQ Q := hI.1.bd hL.2.1.bd
  obtain ⟨eG, eT, eK, etp, esl, eft, efo, emp, evw, ehu, eap, ean⟩ := id hI.1
  have hsB : ∀ b ∈ Q.tp, b < 256 := hL.1.kb.2.2.2.2.2.2.2.1
  have hsl2 : Q.tp.length ≤ 32768 := hB.2.1
  obtain ⟨kC, kZ, tB, pre, post⟩ := ld_gh (A.getD (6 * jn + 1) 0) hL.1 hI hK
  obtain ⟨aC, aZ, bC, bZ, rC, rZ, rB, rpre, rpost, rzero⟩ := rl_gh (A.getD (6 * jn + 1) 0) hI hsB hsl2 hK
  have fit := fit_x hI hK (show jn ≤ 63 by omega) hcs hsl pre.1 pre.2
  have fr := fit_y (show jn ≤ 63 by omega) hcs hsl pre.1 pre.2 rpre.1 rpre.2
  have bad : ¬ (∃ n, n < 4 ∧ (A.getD (6 * jn + 1) 0) = nI n) → ((nc_i (∃ n, n < 4 ∧ (A.getD (6 * jn + 1) 0) = nI n) (nc_kC kz Q.tp + kC) + 2) + pCc Q kz ≤ pCc Q kz + 500 ∧ (nc_i (∃ n, n < 4 ∧ (A.getD (6 * jn + 1) 0) = nI n) (nc_kZ kz Q.tp + kZ) + 12) + pZc Q kz ≤ pZc Q kz + 4000) := fun w => by
    rw [nc_in w, nc_in w]; omega
  refine ⟨_, hL.rd (k := 1) (by decide) (by omega) hA, rfl, F, X, kz, Q, kC, kZ, ⟨⟨hL.1, tB⟩, hL.lwo⟩, by omega, by omega, fun x9 S6 hq => ?_⟩
  have key : ∃ (c : Nat) (v : Int32) (Q1 : Ab) (X1 : Nat → GX) (kz1 : Nat → Nat) (F6 : Nat → Nat × Nat), x9 = nI c ∧ c < 8 ∧ ((∃ n d Q0, n < 4 ∧ (A.getD (6 * jn + 1) 0) = nI n ∧ dlv (Q.sFo 1) n Q.tp d Q0 ∧ c = fthr Q0.ft ∧ (c = 0 → v = nI d) ∧ Q1 = Q0.sTp []) ∨ (c = 1 ∧ np 4 (A.getD (6 * jn + 1) 0) ∧ Q1 = Q)) ∧ (((nc_i (∃ n, n < 4 ∧ (A.getD (6 * jn + 1) 0) = nI n) (nc_kC kz Q.tp + kC) + 2) + pCc Q kz ≤ pCc Q1 kz1 + 500) ∧ ((nc_i (∃ n, n < 4 ∧ (A.getD (6 * jn + 1) 0) = nI n) (nc_kZ kz Q.tp + kZ) + 12) + pZc Q kz ≤ pZc Q1 kz1 + 4000) ∧ LIk kz1 k2) ∧ Lw S6 F6 t m o r A X1 kz1 Q1 z Y R k2 ∧ (x9 = 0 → eJ S6 o 0 = v.toInt64) := by
    rcases hq with ⟨rfl, v0, S0, ⟨n, d, q0, q1, q2, q3, Q1, X1, hd, hf, gW⟩, rfl⟩ | ⟨rfl, rfl, h1⟩ | ⟨rfl, n, d, q0, q1, Q1, X1, hd, hf, gW⟩ | ⟨rfl, n, d, q0, q1, Q1, X1, hd, hf, gW⟩ | ⟨rfl, n, d, q0, q1, Q1, X1, hd, hf, gW⟩ | ⟨rfl, n, d, q0, q1, Q1, X1, hd, hf, gW⟩
    · have gW : wtQ S1 S0 F t X1 (nc_tK kz Q.tp) (Q1.sTp []) := gW
      have hf : Q1.ft = 0 := hf
      obtain ⟨F6, g1, g2⟩ := hL.ok (v := v0.toInt64) gW
      obtain ⟨g3, g4⟩ := post n q0 q1 d Q1 hd
      exact ⟨0, v0, _, X1, _, F6, rfl, by decide, Or.inl ⟨n, d, Q1, q0, q1, hd, by rw [hf]; rfl, fun _ => q2, rfl⟩, ⟨g3, g4, hK.up (by omega)⟩, g1, fun _ => g2⟩
    · obtain ⟨g1, g2⟩ := bad (fun ⟨n, a1, a2⟩ => np_no h1 a1 a2)
      exact ⟨1, 0, Q, X, kz, F, rfl, by decide, Or.inr ⟨rfl, h1, rfl⟩, ⟨g1, g2, hK⟩, hL, fun w => absurd w (by decide)⟩
    · have gW : wtQ S1 S6 F t X1 (nc_tK kz Q.tp) (Q1.sTp []) := gW
      have hf : Q1.ft = 5 := hf
      obtain ⟨F6, g1, -, -⟩ := hL.cls gW
      obtain ⟨g3, g4⟩ := post n q0 q1 d Q1 hd
      exact ⟨2, 0, _, X1, _, F6, rfl, by decide, Or.inl ⟨n, d, Q1, q0, q1, hd, by rw [hf]; rfl, fun w => absurd w (by decide), rfl⟩, ⟨g3, g4, hK.up (by omega)⟩, g1, fun w => absurd w (by decide)⟩
    · have gW : wtQ S1 S6 F t X1 (nc_tK kz Q.tp) (Q1.sTp []) := gW
      have hf : Q1.ft = 6 := hf
      obtain ⟨F6, g1, -, -⟩ := hL.cls gW
      obtain ⟨g3, g4⟩ := post n q0 q1 d Q1 hd
      exact ⟨3, 0, _, X1, _, F6, rfl, by decide, Or.inl ⟨n, d, Q1, q0, q1, hd, by rw [hf]; rfl, fun w => absurd w (by decide), rfl⟩, ⟨g3, g4, hK.up (by omega)⟩, g1, fun w => absurd w (by decide)⟩
    · have gW : wtQ S1 S6 F t X1 (nc_tK kz Q.tp) (Q1.sTp []) := gW
      have hf : Q1.ft = 7 := hf
      obtain ⟨F6, g1, -, -⟩ := hL.cls gW
      obtain ⟨g3, g4⟩ := post n q0 q1 d Q1 hd
      exact ⟨4, 0, _, X1, _, F6, rfl, by decide, Or.inl ⟨n, d, Q1, q0, q1, hd, by rw [hf]; rfl, fun w => absurd w (by decide), rfl⟩, ⟨g3, g4, hK.up (by omega)⟩, g1, fun w => absurd w (by decide)⟩
    · have gW : wtQ S1 S6 F t X1 (nc_tK kz Q.tp) (Q1.sTp []) := gW
      have hf : 1 ≤ Q1.ft ∧ Q1.ft ≤ 4 := hf
      obtain ⟨F6, g1, -, -⟩ := hL.cls gW
      obtain ⟨g3, g4⟩ := post n q0 q1 d Q1 hd
      exact ⟨1, 0, _, X1, _, F6, rfl, by decide, Or.inl ⟨n, d, Q1, q0, q1, hd, fthr_1 hf, fun w => absurd w (by decide), rfl⟩, ⟨g3, g4, hK.up (by omega)⟩, g1, fun w => absurd w (by decide)⟩
  obtain ⟨c, v, Q1, X1, kz1, F6, hx, hc8, hc, ⟨p1, p2, hK1⟩, hL6, hv⟩ := key
  refine ⟨_, hL6.rd (k := 1) (by decide) (by omega) hA, rfl, F6, z, Y, R, k2, aC, aZ, bC, bZ, rC, rZ, ⟨hL6.2.1, hI.abc, hK.2.2.2.2.1, rB⟩, by omega, by omega, fun v9 S9 hr => ?_⟩
  have key2 : ∃ (th : Nat) (R1 : Rb) (k21 : Nat → Nat), ((∃ n f R' c', n < 4 ∧ (A.getD (6 * jn + 1) 0) = nI n ∧ rdX (ldR R) n R.Q.tp k2 R' k21 f c' ∧ v9 = (if f = 0 then nI c' else 0) ∧ th = fthr f ∧ R1 = R'.sQ (R'.Q.sFt f)) ∨ (th = 1 ∧ np 4 (A.getD (6 * jn + 1) 0) ∧ R1 = R)) ∧ ((2 + (aC + bC + rC)) + pCr R k2 ≤ pCr R1 k21 + 500 ∧ (12 + (aZ + bZ + rZ)) + pZr R k2 ≤ pZr R1 k21 + 4000) ∧ (∀ kz', LIk kz' k2 → LIk kz' k21) ∧ mdW S6 S9 F6 m R1 k21 th := by
    rcases hr with ⟨n, q0, q1, f, R', k21, c', g1, g2, g3, g4, gW⟩ | ⟨h1, q1, gW⟩
    · obtain ⟨u1, u2⟩ := rpost n R' k21 f c' q0 q1 g1
      exact ⟨fthr f, _, k21, Or.inl ⟨n, f, R', c', q0, q1, g1, g4, rfl, rfl⟩, u1, u2, gW⟩
    · obtain ⟨z1, z2⟩ := rzero (fun ⟨n, a1, a2⟩ => np_no h1 a1 a2)
      exact ⟨1, R, k2, Or.inr ⟨rfl, h1, rfl⟩, ⟨by omega, by omega⟩, fun _ q => q, gW⟩
  obtain ⟨th, R1, k21, hr, ⟨r1, r2⟩, hKt, hw⟩ := key2
  obtain ⟨F9, z9, Y9, hL9, hth, -, hj9⟩ := hL6.ref hw
  obtain ⟨a1, a2, hI1⟩ := ag_ld hI hsB hc hr
  refine lw_cmp hL9 (by rw [hth, a1, ← hx]) (fun w => ?_) (by omega) (by omega) (nx_k hk hj hA hL9 hI1 (hKt kz1 hK1) hcs hsl p1 p2 r1 r2 (by omega) (by omega))
  rw [hj9, hv w, a2 (nI_z hc8 (hx.symm.trans w))]
