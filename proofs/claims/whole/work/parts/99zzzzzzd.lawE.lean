/-! ===== The law: sync ===== -/
theorem bPuts_256 : ∀ {vs : List Int32} {B : List Nat}, (∀ b ∈ B, b < 256) → ∀ b ∈ bPuts B vs, b < 256
  | [], B, h => h
  | v :: vs, B, h => by
    show ∀ b ∈ bPuts (bPut B v) vs, b < 256
    refine bPuts_256 (vs := vs) (fun b hb => ?_)
    unfold bPut at hb
    split at hb
    · rcases List.mem_append.1 hb with w | w
      · exact h b w
      · rw [List.mem_singleton.1 w]; exact b8_lt _
    · exact h b hb
section SYL
variable {Q Q1 : Ab} {R R1 R' : Rb} {p x v v' : Int32} {c th n m : Nat} {kz k2 k21 : Nat → Nat}
theorem rsmW_lt (hm : m < 4) (hG : (R.Q.G m).ok) : ∀ b ∈ rsmW R m, b < 256 := by
  intro b hb
  unfold rsmW at hb
  rcases List.mem_append.1 hb with w | w
  · exact rsm_lt hG hm b w
  · obtain ⟨k, -, rfl⟩ := List.mem_map.1 w
    exact b8_lt _
theorem sy_li (hI : LIv Q R) (hn : n < 4) (hm : m < 4) : LIv (nc_syQ Q n m) (syR0 R n m) ∧ syM R m := by
  obtain ⟨eG, -⟩ := id hI.1
  obtain ⟨g1, g2, -⟩ := hI.2.2.2.1 m hm
  have hS : syM R m := syM_ok hm (by rw [eG]; exact g1.1) (by rw [eG]; exact g2)
  have eB : syB Q m = rsmW R m := by
    unfold syB rsmW
    rw [eG]; exact sum_eq g1.1 hm
  have eQ : nc_syQ Q n m = (Q.sKn n (lrnK (Q.Kn n) (rsmW R m))).sFt (lrF (rsmW R m)) := by
    unfold nc_syQ
    rw [eB]
    exact if_pos hS.1
  have hd : dlv Q n (rsmW R m) 0 (nc_syQ Q n m) := Or.inr (Or.inl ⟨hS.1, rsm_2 R m, rfl, eQ⟩)
  have hx : rdX R n (rsmW R m) (fun _ => 0) (jsR R n (rsmW R m)) (fun _ => 0) (lrF (rsmW R m)) 0 := Or.inr (Or.inl ⟨hS.1, rsm_2 R m, rfl, rfl, rfl, rfl⟩)
  obtain ⟨-, -, a3⟩ := hI.dlv hn (rsmW_lt hm (by rw [eG]; exact g1.1)) (fun _ _ f2 => absurd (rsm_2 R m) f2) hd hx
  rw [hS.2] at a3
  exact ⟨a3, hS⟩
theorem syR0_H (R : Rb) (n m : Nat) : (syR0 R n m).Q.G = R.Q.G ∧ (syR0 R n m).Q.T = R.Q.T := ⟨upF_id _ _, upF_id _ _⟩
theorem pr_sy (R : Rb) (n m : Nat) (k2 : Nat → Nat) : pCr (syR0 R n m) k2 = pCr R k2 ∧ pZr (syR0 R n m) k2 = pZr R k2 := by
  have e : fuS (syR0 R n m) = fuS R := rfl
  unfold pCr pZr
  rw [(syR0_H R n m).1, e]
  exact ⟨rfl, rfl⟩
theorem pc_sy (Q : Ab) (n m : Nat) (kz : Nat → Nat) : pCc (nc_syQ Q n m) kz = pCc Q kz ∧ pZc (nc_syQ Q n m) kz = pZc Q kz := by
  unfold pCc pZc
  rw [nc_syQ_G.1]
  exact ⟨rfl, rfl⟩
/-- the patch of a sync: one for both -/
theorem sy_by (hI : LIv Q R) (hn : n < 4) (hm : m < 4) : (paT (Q.G n) (nc_syN Q n m) (some m) ≤ 32768 ↔ syL R n m ≤ 32768) ∧ (paT (Q.G n) (nc_syN Q n m) (some m) ≤ 32768 → nc_syP Q n m = syW0 R n m ∧ ((nc_syQ Q n m).fo = 0 → KiB (nc_syQ Q n m).G (syW0 R n m))) := by
  obtain ⟨hI2, -⟩ := sy_li hI hn hm
  obtain ⟨a1, a2⟩ := ag_sd (o := some m) hI2.1 hn
  have ew : wpF (syR0 R n m) n (some m) = paF ((nc_syQ Q n m).G n) ((nc_syQ Q n m).Kn n) (some m) := by
    unfold wpF paF
    rw [hI2.1.1, hI2.1.2.2.1]
    rfl
  have b1 : paT ((nc_syQ Q n m).G n) ((nc_syQ Q n m).Kn n) (some m) = paT (Q.G n) (nc_syN Q n m) (some m) := by rw [nc_syQ_G.1]; rfl
  have b2 : bPuts [] (coA (paF ((nc_syQ Q n m).G n) ((nc_syQ Q n m).Kn n) (some m)) (nI n)) = nc_syP Q n m := by rw [nc_syQ_G.1]; rfl
  rw [b2] at a2
  refine ⟨by rw [← b1]; exact a1, fun hl => ⟨a2 (by rw [b1]; exact hl), fun hf => ?_⟩⟩
  have k := ((hI2.snd hn (o := some m) (by rw [b1]; exact hl) 0).2.2.2.2 hf).2 0 (by decide)
  have k : KiB (nc_syQ Q n m).G (upF (nc_syQ Q n m).sl 0 (rmA (paF ((nc_syQ Q n m).G n) ((nc_syQ Q n m).Kn n) (some m)) n) 0) := k
  rw [upF_s, ← ew] at k
  exact k
theorem rmA_len (V : Nat → List Int32) (p : Nat) : (rmA V p).length = (rmB V p 5).length + 4 := by
  unfold rmA
  rw [List.length_append, List.length_map, List.length_range]
theorem sy_k {S : MM} {F : Nat → Nat × Nat} {t : Nat} {X : Nat → GX} (hW : WT S F t X kz Q) (hI : LIv Q R) (hK : LIk kz k2) (hn : n < 4) (hm : m < 4) : ∃ kC kZ, (framed (nc_syP Q n m) → bAt (nc_syP Q n m) 1 ≠ 2 → ∀ L E, rdM (nc_syP Q n m) L E → brK L E (Q.G m) (Q.T m) none kC kZ) ∧ (nc_syC kz Q n m kC + pCc Q kz ≤ 295200 ∧ nc_syZ kz Q n m kZ + pZc Q kz ≤ 4262944) ∧ (paT (Q.G n) (nc_syN Q n m) (some m) ≤ 32768 → (∀ d Q1, dlv (nc_syQ Q n m) m (nc_syP Q n m) d Q1 → nc_syC kz Q n m kC + pCc Q kz ≤ pCc Q1 (nc_tK (nc_sy4 kz Q n m) (nc_syP Q n m)) + 90 ∧ nc_syZ kz Q n m kZ + pZc Q kz ≤ pZc Q1 (nc_tK (nc_sy4 kz Q n m) (nc_syP Q n m))) ∧ LIk (nc_tK (nc_sy4 kz Q n m) (nc_syP Q n m)) k2) ∧ (32768 < paT (Q.G n) (nc_syN Q n m) (some m) → (nc_syC kz Q n m kC + pCc Q kz ≤ pCc (nc_syQ Q n m) (nc_sy4 kz Q n m) + 90 ∧ nc_syZ kz Q n m kZ + pZc Q kz ≤ pZc (nc_syQ Q n m) (nc_sy4 kz Q n m)) ∧ LIk (nc_sy4 kz Q n m) k2) := by
  have hg : ∀ p, p < 4 → (Q.G p).ok := fun p hp => (hI.2.2.2.1 p hp).1.1
  have hb := kzB.of hW hK
  obtain ⟨w1, w2⟩ := hW.kp2
  have A1 := capN_b (len := 0) w1 (sumA (Q.G m) m).length
  obtain ⟨u1, u2, u3⟩ := pw_le A1
  have n1 := addNC_9 (n := (sumA (Q.G m) m).length) (len := 0) (pw_le w1).1 u2
  have s1 := addNS_eq (cap := kz 1) (len := 0) (sumA (Q.G m) m).length
  obtain ⟨e1, e2⟩ := pc_1 Q kz (capN (sumA (Q.G m) m).length (kz 1) 0)
  have eK : syK kz Q m = upF kz 1 (capN (sumA (Q.G m) m).length (kz 1) 0) := rfl
  have hK1 : LIk (syK kz Q m) k2 := hK.up (by omega)
  have hb1 : kzB (syK kz Q m) := hb.v1 u2
  have y1 : syK kz Q m 1 = capN (sumA (Q.G m) m).length (kz 1) 0 := upF_s
  have c1 : ∀ i, i < 6 → ∃ k, k ≤ 9 ∧ syK kz Q m (40 + i) = 64 * 2 ^ k := fun i hi => by
    rw [eK, upF_o (by omega)]; exact w2 i hi
  rw [← eK] at e1 e2
  obtain ⟨d1, d2, d3, d4, d5⟩ := pc_sd (Q := Q) (G := Q.G n) (Kn := nc_syN Q n m) (o := some m) c1 hK1.2.2.1
  have hK3 : LIk (nc_sy3 kz Q n m) k2 := hK1.sd
  have hb3 : kzB (nc_sy3 kz Q n m) := hb1.sd Q c1
  have e3 : sdK (syK kz Q m) (Q.G n) (nc_syN Q n m) (some m) = nc_sy3 kz Q n m := rfl
  rw [e3] at d1 d2 d4 d5
  have y3 : nc_sy3 kz Q n m 1 = syK kz Q m 1 := sdK_o (by decide) (by decide)
  have A2 : ∃ k, k ≤ 9 ∧ capN (nc_syA Q n m).length (syK kz Q m 1) 0 = 64 * 2 ^ k := capN_b (by rw [y1]; exact A1) _
  obtain ⟨v1, v2, v3⟩ := pw_le A2
  have n2 := addNC_9 (n := (nc_syA Q n m).length) (cap := syK kz Q m 1) (len := 0) (by rw [y1]; exact u1) v2
  have s2 := addNS_eq (cap := syK kz Q m 1) (len := 0) (nc_syA Q n m).length
  obtain ⟨f1, f2⟩ := pc_1 Q (nc_sy3 kz Q n m) (capN (nc_syA Q n m).length (syK kz Q m 1) 0)
  have e4 : upF (nc_sy3 kz Q n m) 1 (capN (nc_syA Q n m).length (syK kz Q m 1) 0) = nc_sy4 kz Q n m := rfl
  rw [e4] at f1 f2
  have hK4 : LIk (nc_sy4 kz Q n m) k2 := hK3.up (by omega)
  have hb4 : kzB (nc_sy4 kz Q n m) := hb3.v1 v2
  have h45 : ∃ k, k ≤ 9 ∧ nc_sy4 kz Q n m 45 = 64 * 2 ^ k := by
    rw [← e4, upF_o (by decide)]; exact d4 5 (by decide)
  have gt := (hI.2.2.2.1 m hm).1
  obtain ⟨kC, kZ, t1, ⟨t2, t3⟩, t4⟩ := tk_c (Q := nc_syQ Q n m) (n := m) (B := nc_syP Q n m) (kz := nc_sy4 kz Q n m) (by rw [nc_syQ_G.1]; exact hg) hm (by rw [nc_syQ_G.1, nc_syQ_G.2]; exact gt) (bPuts_256 (fun b hb => by cases hb)) hb4 h45
  rw [nc_syQ_G.1, nc_syQ_G.2] at t1
  obtain ⟨z1, z2⟩ := pc_sy Q n m (nc_sy4 kz Q n m)
  obtain ⟨z3, z4⟩ := pc_sy Q n m (nc_sy3 kz Q n m)
  rw [z1] at t2
  rw [z2] at t3
  obtain ⟨q1, q2⟩ := pc_b hg hb3
  obtain ⟨q3, q4⟩ := pc_b hg hb4
  have yes : paT (Q.G n) (nc_syN Q n m) (some m) ≤ 32768 → nc_syC kz Q n m kC = addNC (sumA (Q.G m) m).length (kz 1) 0 + sdC (syK kz Q m) (Q.G n) (nc_syN Q n m) (some m) + (addNC (nc_syA Q n m).length (syK kz Q m 1) 0 + (nc_kC (nc_sy4 kz Q n m) (nc_syP Q n m) + kC)) ∧ nc_syZ kz Q n m kZ = addNS (sumA (Q.G m) m).length (kz 1) 0 + sdZ (syK kz Q m) (Q.G n) (nc_syN Q n m) (some m) + (addNS (nc_syA Q n m).length (syK kz Q m 1) 0 + (nc_kZ (nc_sy4 kz Q n m) (nc_syP Q n m) + kZ)) := fun c => by
    unfold nc_syC nc_syZ
    rw [nc_t c, nc_t c]
    exact ⟨rfl, rfl⟩
  have no : 32768 < paT (Q.G n) (nc_syN Q n m) (some m) → nc_syC kz Q n m kC = addNC (sumA (Q.G m) m).length (kz 1) 0 + sdC (syK kz Q m) (Q.G n) (nc_syN Q n m) (some m) + (addNC (nc_syA Q n m).length (syK kz Q m 1) 0 + 0) ∧ nc_syZ kz Q n m kZ = addNS (sumA (Q.G m) m).length (kz 1) 0 + sdZ (syK kz Q m) (Q.G n) (nc_syN Q n m) (some m) + (addNS (nc_syA Q n m).length (syK kz Q m 1) 0 + 0) := fun c => by
    unfold nc_syC nc_syZ
    rw [nc_f (by omega), nc_f (by omega)]
    exact ⟨rfl, rfl⟩
  refine ⟨kC, kZ, t1, ?_, fun c => ⟨fun d Q1 hd => ?_, hK4.up (by omega)⟩, fun c => ⟨?_, hK4⟩⟩
  · rcases Nat.lt_or_ge 32768 (paT (Q.G n) (nc_syN Q n m) (some m)) with c | c
    · obtain ⟨a1, a2⟩ := no c
      omega
    · obtain ⟨a1, a2⟩ := yes c
      omega
  · obtain ⟨a1, a2⟩ := yes c
    obtain ⟨b1, b2⟩ := t4 d Q1 hd
    rw [z1] at b1
    rw [z2] at b2
    omega
  · obtain ⟨a1, a2⟩ := no c
    omega
theorem sy_gh (p x : Int32) {S : MM} {F : Nat → Nat × Nat} {t : Nat} {X : Nat → GX} (hW : WT S F t X kz Q) (hI : LIv Q R) (hK : LIk kz k2) : ∃ kC kZ, syBd Q p x kC kZ ∧ ((nc_i (∃ n m, syA p x n m) (nc_syC kz Q p.toNatClampNeg x.toNatClampNeg kC) + 4) + pCc Q kz ≤ 295540 ∧ (nc_i (∃ n m, syA p x n m) (nc_syZ kz Q p.toNatClampNeg x.toNatClampNeg kZ) + 24) + pZc Q kz ≤ 4266944) ∧ (∀ n m, syA p x n m → paT (Q.G n) (nc_syN Q n m) (some m) ≤ 32768 → (∀ d Q1, dlv (nc_syQ Q n m) m (nc_syP Q n m) d Q1 → ((nc_i (∃ n m, syA p x n m) (nc_syC kz Q p.toNatClampNeg x.toNatClampNeg kC) + 4) + pCc Q kz ≤ pCc Q1 (nc_tK (nc_sy4 kz Q n m) (nc_syP Q n m)) + 500 ∧ (nc_i (∃ n m, syA p x n m) (nc_syZ kz Q p.toNatClampNeg x.toNatClampNeg kZ) + 24) + pZc Q kz ≤ pZc Q1 (nc_tK (nc_sy4 kz Q n m) (nc_syP Q n m)) + 4000)) ∧ LIk (nc_tK (nc_sy4 kz Q n m) (nc_syP Q n m)) k2) ∧ (∀ n m, syA p x n m → 32768 < paT (Q.G n) (nc_syN Q n m) (some m) → ((nc_i (∃ n m, syA p x n m) (nc_syC kz Q p.toNatClampNeg x.toNatClampNeg kC) + 4) + pCc Q kz ≤ pCc (nc_syQ Q n m) (nc_sy4 kz Q n m) + 500 ∧ (nc_i (∃ n m, syA p x n m) (nc_syZ kz Q p.toNatClampNeg x.toNatClampNeg kZ) + 24) + pZc Q kz ≤ pZc (nc_syQ Q n m) (nc_sy4 kz Q n m) + 4000) ∧ LIk (nc_sy4 kz Q n m) k2) := by
  have hg : ∀ p, p < 4 → (Q.G p).ok := fun p hp => (hI.2.2.2.1 p hp).1.1
  have hb := kzB.of hW hK
  obtain ⟨q1, q2⟩ := pc_b hg hb
  by_cases w : ∃ n m, syA p x n m
  · obtain ⟨n, m, hA⟩ := id w
    obtain ⟨a1, a2, a3, a4⟩ := id hA
    have cn : p.toNatClampNeg = n := by rw [a2]; exact nI_clamp (by omega)
    have cm : x.toNatClampNeg = m := by rw [a4]; exact nI_clamp (by omega)
    obtain ⟨kC, kZ, t1, ⟨t2, t3⟩, t4, t5⟩ := sy_k hW hI hK a1 a3
    have uq : ∀ n' m', syA p x n' m' → n' = n ∧ m' = m := fun n' m' h => ⟨nI_ij h.2.1 a2 (by have := h.1; omega) (by omega), nI_ij h.2.2.2 a4 (by have := h.2.2.1; omega) (by omega)⟩
    refine ⟨kC, kZ, fun n' m' h1 h2 h3 h4 => ?_, ⟨?_, ?_⟩, fun n' m' h c => ?_, fun n' m' h c => ?_⟩
    · obtain ⟨rfl, rfl⟩ := uq n' m' ⟨h1, h2, h3, h4⟩
      exact t1
    · rw [nc_it w, cn, cm]; omega
    · rw [nc_it w, cn, cm]; omega
    · obtain ⟨rfl, rfl⟩ := uq n' m' h
      obtain ⟨t6, t7⟩ := t4 c
      refine ⟨fun d Q1 hd => ?_, t7⟩
      obtain ⟨t8, t9⟩ := t6 d Q1 hd
      rw [nc_it w, nc_it w, cn, cm]
      exact ⟨by omega, by omega⟩
    · obtain ⟨rfl, rfl⟩ := uq n' m' h
      obtain ⟨⟨t6, t8⟩, t7⟩ := t5 c
      refine ⟨?_, t7⟩
      rw [nc_it w, nc_it w, cn, cm]
      exact ⟨by omega, by omega⟩
  · refine ⟨0, 0, fun n' m' h1 h2 h3 h4 => absurd ⟨n', m', h1, h2, h3, h4⟩ w, ⟨?_, ?_⟩, fun n' m' h => absurd ⟨n', m', h⟩ w, fun n' m' h => absurd ⟨n', m', h⟩ w⟩
    · rw [nc_in w]; omega
    · rw [nc_in w]; omega
theorem ry_gh (p x : Int32) (hI : LIv Q R) (hK : LIk kz k2) : ∃ aC aZ bC bZ kC kZ, syG R k2 p x aC aZ bC bZ kC kZ ∧ ((5 + (aC + bC + kC)) + pCr R k2 ≤ 213492 ∧ (30 + (aZ + bZ + kZ)) + pZr R k2 ≤ 1085344) ∧ (∀ n m R' k21 f c', n < 4 → p = nI n → m < 4 → x = nI m → syL R n m ≤ 32768 → rdX (syR0 R n m) m (syW0 R n m) k2 R' k21 f c' → ((5 + (aC + bC + kC)) + pCr R k2 ≤ pCr (R'.sQ (R'.Q.sFt f)) k21 + 500 ∧ (30 + (aZ + bZ + kZ)) + pZr R k2 ≤ pZr (R'.sQ (R'.Q.sFt f)) k21 + 4000) ∧ ∀ kz', LIk kz' k2 → LIk kz' k21) ∧ ((¬ ∃ n m, n < 4 ∧ p = nI n ∧ m < 4 ∧ x = nI m ∧ syL R n m ≤ 32768) → aC + bC + kC = 0 ∧ aZ + bZ + kZ = 0) := by
  obtain ⟨eG, eT, eK, etp, esl, -⟩ := id hI.1
  have hg : ∀ p, p < 4 → (R.Q.G p).ok := fun p hp => by rw [eG]; exact (hI.2.2.2.1 p hp).1.1
  obtain ⟨q1, q2⟩ := pr_b hg hK.2.2.2.2.1 hK.2.2.2.2.2.2.1 hK.2.2.2.2.2.2.2.1 hK.2.2.2.2.2.2.2.2.1.1
  by_cases w : ∃ n m, n < 4 ∧ p = nI n ∧ m < 4 ∧ x = nI m ∧ syL R n m ≤ 32768
  · obtain ⟨n, m, n1, n2, m1, m2, hl⟩ := id w
    have gt : GT (R.Q.G m) (R.Q.T m) := by rw [eG, eT]; exact (hI.2.2.2.1 m m1).1
    have hlen : (syW0 R n m).length ≤ 32768 := by
      unfold syW0
      rw [rmA_len]; exact hl
    obtain ⟨aC, aZ, bC, bZ, kC, kZ, t1, ⟨t2, t3⟩, t4⟩ := rd_c (R := syR0 R n m) (n := m) (B := syW0 R n m) m1 (by rw [(syR0_H R n m).1]; exact hg) (by rw [(syR0_H R n m).1, (syR0_H R n m).2]; exact gt) (rmA_lt n1 hl) hlen hK
    obtain ⟨e1, e2⟩ := pr_sy R n m k2
    rw [e1] at t2
    rw [e2] at t3
    have uq : ∀ n' m', n' < 4 → p = nI n' → m' < 4 → x = nI m' → n' = n ∧ m' = m := fun n' m' a1 a2 a3 a4 => ⟨nI_ij a2 n2 (by omega) (by omega), nI_ij a4 m2 (by omega) (by omega)⟩
    refine ⟨aC, aZ, bC, bZ, kC, kZ, fun n' m' a1 a2 a3 a4 _ _ => ?_, ⟨by omega, by omega⟩, fun n' m' R' k21 f c' a1 a2 a3 a4 _ hx => ?_, fun q => absurd w q⟩
    · obtain ⟨rfl, rfl⟩ := uq n' m' a1 a2 a3 a4
      exact t1
    · obtain ⟨rfl, rfl⟩ := uq n' m' a1 a2 a3 a4
      obtain ⟨u1, u2, u3⟩ := t4 R' k21 f c' hx
      rw [e1] at u1
      rw [e2] at u2
      have e1 : pCr (R'.sQ (R'.Q.sFt f)) k21 = pCr R' k21 := rfl
      have e2 : pZr (R'.sQ (R'.Q.sFt f)) k21 = pZr R' k21 := rfl
      exact ⟨⟨by omega, by omega⟩, u3⟩
  · exact ⟨0, 0, 0, 0, 0, 0, fun n' m' a1 a2 a3 a4 _ a5 => absurd ⟨n', m', a1, a2, a3, a4, a5⟩ w, ⟨by omega, by omega⟩, fun n' m' R' k21 f c' a1 a2 a3 a4 a5 => absurd ⟨n', m', a1, a2, a3, a4, a5⟩ w, fun _ => ⟨rfl, rfl⟩⟩
theorem ag_sy (hI : LIv Q R) (hc : ((∃ n m d, syA p x n m ∧ paT (Q.G n) (nc_syN Q n m) (some m) ≤ 32768 ∧ dlv (nc_syQ Q n m) m (nc_syP Q n m) d Q1 ∧ c = fthr Q1.ft ∧ (c = 0 → v = nI d)) ∨ (c = 1 ∧ (np 4 p ∨ np 4 x) ∧ Q1 = Q) ∨ (c = 4 ∧ ∃ n m, syA p x n m ∧ 32768 < paT (Q.G n) (nc_syN Q n m) (some m) ∧ Q1 = nc_syQ Q n m))) (hr : ((∃ n m f R' c', n < 4 ∧ p = nI n ∧ m < 4 ∧ x = nI m ∧ syL R n m ≤ 32768 ∧ rdX (syR0 R n m) m (syW0 R n m) k2 R' k21 f c' ∧ v' = (if f = 0 then nI c' else 0) ∧ th = fthr f ∧ R1 = R'.sQ (R'.Q.sFt f)) ∨ (th = 1 ∧ (np 4 p ∨ np 4 x) ∧ R1 = R) ∨ (th = 4 ∧ ∃ n m, n < 4 ∧ p = nI n ∧ m < 4 ∧ x = nI m ∧ 32768 < syL R n m ∧ R1 = syR0 R n m))) : th = c ∧ (c = 0 → v' = v) ∧ LIv Q1 R1 := by
  have uq : ∀ n m n' m', syA p x n m → n' < 4 → p = nI n' → m' < 4 → x = nI m' → n' = n ∧ m' = m := fun n m n' m' h a1 a2 a3 a4 => ⟨nI_ij a2 h.2.1 (by omega) (by have := h.1; omega), nI_ij a4 h.2.2.2 (by omega) (by have := h.2.2.1; omega)⟩
  rcases hc with ⟨n, m, d, h1, h2, h3, h4, h5⟩ | ⟨h0, h1, rfl⟩ | ⟨h0, n, m, h1, h2, rfl⟩ <;> rcases hr with ⟨n', m', f, R', c', g1, g2, g3, g4, g5, g6, g7, g8, rfl⟩ | ⟨g0, g1, rfl⟩ | ⟨g0, n', m', g1, g2, g3, g4, g5, rfl⟩
  · obtain ⟨rfl, rfl⟩ := uq n m n' m' h1 g1 g2 g3 g4
    rw [h4] at h5
    obtain ⟨b1, b2⟩ := (sy_by hI g1 g3).2 h2
    rw [b1] at h3
    obtain ⟨a1, a2, a3⟩ := ag_rdl (v := v) (sy_li hI g1 g3).1 g3 (rmA_lt g1 g5) b2 h3 g6 h5 g7
    exact ⟨by rw [g8, h4, a1], fun w => a2 (by rw [← h4]; exact w), a3⟩
  · exact (g1.elim (fun w => np_no w h1.1 h1.2.1) (fun w => np_no w h1.2.2.1 h1.2.2.2)).elim
  · obtain ⟨rfl, rfl⟩ := uq n m n' m' h1 g1 g2 g3 g4
    have := (sy_by hI g1 g3).1.1 h2
    omega
  · exact (h1.elim (fun w => np_no w g1 g2) (fun w => np_no w g3 g4)).elim
  · exact ⟨by omega, fun q => by omega, hI⟩
  · exact (h1.elim (fun w => np_no w g1 g2) (fun w => np_no w g3 g4)).elim
  · obtain ⟨rfl, rfl⟩ := uq n m n' m' h1 g1 g2 g3 g4
    have := (sy_by hI g1 g3).1.2 g5
    omega
  · exact (g1.elim (fun w => np_no w h1.1 h1.2.1) (fun w => np_no w h1.2.2.1 h1.2.2.2)).elim
  · obtain ⟨rfl, rfl⟩ := uq n m n' m' h1 g1 g2 g3 g4
    exact ⟨by omega, fun q => by omega, (sy_li hI g1 g3).1⟩
end SYL
set_option maxRecDepth 100000 in
set_option maxHeartbeats 2000000 in
theorem lwc_sy {r k : Nat} {A : List Int32} {lo : List (Nat × MV)} {st : List MV} {S1 : MM} {cs sl : Nat} (h : I_lc r A k lo st S1 cs sl) : GoL k r A 1846 lo st S1 cs sl := by
  obtain ⟨jn, t, mo, o, F, X, kz, Q, z, Y, R, k2, hk, hj, hA, ⟨hL, hI, hK, hcs, hsl⟩, rfl, rfl⟩ := h
  refine ⟨300, ?_⟩
  show (∃ v_1 : Int32, (r = r ∧ vp_in ((nI (6 * jn)) + (1 : Int32)) A.length ∧ v_1 = A.getD ((nI (6 * jn)) + (1 : Int32)).toNatClampNeg 0) ∧ (∃ v_2 : Int32, (r = r ∧ vp_in ((nI (6 * jn)) + (2 : Int32)) A.length ∧ v_2 = A.getD ((nI (6 * jn)) + (2 : Int32)).toNatClampNeg 0) ∧ (2 = 2 ∧ (∃ (F_3 : Nat → Nat × Nat) (X_4 : Nat → GX) (kz_5 : Nat → Nat) (Q_6 : Ab) (kC_7 kZ_8 : Nat), ((WT S1 F_3 t X_4 kz_5 Q_6 ∧ syBd Q_6 v_1 v_2 kC_7 kZ_8) ∧ lwO S1 F_3 o) ∧ cs + (nc_i (∃ n m, syA v_1 v_2 n m) (nc_syC kz_5 Q_6 v_1.toNatClampNeg v_2.toNatClampNeg kC_7) + 4) ≤ 600128 ∧ sl + (nc_i (∃ n m, syA v_1 v_2 n m) (nc_syZ kz_5 Q_6 v_1.toNatClampNeg v_2.toNatClampNeg kZ_8) + 24) ≤ 7301098 ∧ (∀ (x_10 : Int32) (S_9 : MM), ((x_10 = 0 ∧ ∃ (v0 : Int32) (S0 : MM), (∃ n m c, syA v_1 v_2 n m ∧ v0 = nI c ∧ c ≤ 8192 ∧ syR S1 S0 F_3 t kz_5 Q_6 n m (fun f => f = 0) c) ∧ S_9 = loJ S0 o v0.toInt64) ∨ (x_10 = 1 ∧ S_9 = S1 ∧ (np 4 v_1 ∨ np 4 v_2)) ∨ (x_10 = 4 ∧ (∃ (n m : Nat) (X1 : Nat → GX), syA v_1 v_2 n m ∧ 32768 < paT (Q_6.G n) (nc_syN Q_6 n m) (some m) ∧ wtQ S1 S_9 F_3 t X1 (nc_sy4 kz_5 Q_6 n m) (nc_syQ Q_6 n m))) ∨ (x_10 = 2 ∧ (∃ n m c, syA v_1 v_2 n m ∧ syR S1 S_9 F_3 t kz_5 Q_6 n m (fun f => f = 5) c)) ∨ (x_10 = 3 ∧ (∃ n m c, syA v_1 v_2 n m ∧ syR S1 S_9 F_3 t kz_5 Q_6 n m (fun f => f = 6) c)) ∨ (x_10 = 4 ∧ (∃ n m c, syA v_1 v_2 n m ∧ syR S1 S_9 F_3 t kz_5 Q_6 n m (fun f => f = 7) c)) ∨ (x_10 = 1 ∧ (∃ n m c, syA v_1 v_2 n m ∧ syR S1 S_9 F_3 t kz_5 Q_6 n m (fun f => 1 ≤ f ∧ f ≤ 4) c))) → (∃ v_11 : Int32, (r = r ∧ vp_in ((nI (6 * jn)) + (1 : Int32)) A.length ∧ v_11 = A.getD ((nI (6 * jn)) + (1 : Int32)).toNatClampNeg 0) ∧ (∃ v_12 : Int32, (r = r ∧ vp_in ((nI (6 * jn)) + (2 : Int32)) A.length ∧ v_12 = A.getD ((nI (6 * jn)) + (2 : Int32)).toNatClampNeg 0) ∧ (0 = 0 ∧ (∃ (F_13 : Nat → Nat × Nat) (z_14 : Nat → Nat) (Y_15 : Nat → Nat → Nat) (R_16 : Rb) (kz_17 : Nat → Nat) (aC_18 aZ_19 bC_20 bZ_21 kC_22 kZ_23 : Nat), (MD S_9 F_13 mo z_14 Y_15 R_16 kz_17 ∧ AbC R_16 ∧ kz_17 40 ≤ 16384 ∧ syG R_16 kz_17 v_11 v_12 aC_18 aZ_19 bC_20 bZ_21 kC_22 kZ_23) ∧ cs + (nc_i (∃ n m, syA v_1 v_2 n m) (nc_syC kz_5 Q_6 v_1.toNatClampNeg v_2.toNatClampNeg kC_7) + 4) + (5 + (aC_18 + bC_20 + kC_22)) ≤ 600128 ∧ sl + (nc_i (∃ n m, syA v_1 v_2 n m) (nc_syZ kz_5 Q_6 v_1.toNatClampNeg v_2.toNatClampNeg kZ_8) + 24) + (30 + (aZ_19 + bZ_21 + kZ_23)) ≤ 7301098 ∧ (∀ (x_25 : Int32) (S_24 : MM), (syV S_9 S_24 F_13 mo R_16 kz_17 v_11 v_12 x_25 ∨ ((np 4 v_11 ∨ np 4 v_12) ∧ x_25 = 0 ∧ mdW S_9 S_24 F_13 mo R_16 kz_17 1)) → (0 = 0 ∧ (∃ (v9_26 : Int32), (isO S_24 15 mo ∧ mI S_24 1551 mo = v9_26) ∧ cs + (nc_i (∃ n m, syA v_1 v_2 n m) (nc_syC kz_5 Q_6 v_1.toNatClampNeg v_2.toNatClampNeg kC_7) + 4) + (5 + (aC_18 + bC_20 + kC_22)) ≤ 600128 ∧ sl + (nc_i (∃ n m, syA v_1 v_2 n m) (nc_syZ kz_5 Q_6 v_1.toNatClampNeg v_2.toNatClampNeg kZ_8) + 24) + (30 + (aZ_19 + bZ_21 + kZ_23)) ≤ 7301098 ∧ (((v9_26 = x_10 → ((¬ x_10 = 0 → (∃ k1, k1 < k ∧ I_nx r A k1 [(0, .inr (.inr (some r))), (1, .inr (.inr (some t))), (2, .inr (.inr (some mo))), (3, .inr (.inr (some o))), (4, .inl (nI (6 * jn)))] [] S_24 (cs + (nc_i (∃ n m, syA v_1 v_2 n m) (nc_syC kz_5 Q_6 v_1.toNatClampNeg v_2.toNatClampNeg kC_7) + 4) + (5 + (aC_18 + bC_20 + kC_22))) (sl + (nc_i (∃ n m, syA v_1 v_2 n m) (nc_syZ kz_5 Q_6 v_1.toNatClampNeg v_2.toNatClampNeg kZ_8) + 24) + (30 + (aZ_19 + bZ_21 + kZ_23))))) ∧ (x_10 = 0 → (isO S_24 18 o ∧ inR S_24 o (0 : Int32) ∧ (((lg_cmp (eJ S_24 o (0 : Int32).toNatClampNeg) x_25.toInt64) = 0 → (∃ k1, k1 < k ∧ I_nx r A k1 [(0, .inr (.inr (some r))), (1, .inr (.inr (some t))), (2, .inr (.inr (some mo))), (3, .inr (.inr (some o))), (4, .inl (nI (6 * jn)))] [] S_24 (cs + (nc_i (∃ n m, syA v_1 v_2 n m) (nc_syC kz_5 Q_6 v_1.toNatClampNeg v_2.toNatClampNeg kC_7) + 4) + (5 + (aC_18 + bC_20 + kC_22))) (sl + (nc_i (∃ n m, syA v_1 v_2 n m) (nc_syZ kz_5 Q_6 v_1.toNatClampNeg v_2.toNatClampNeg kZ_8) + 24) + (30 + (aZ_19 + bZ_21 + kZ_23))))) ∧ (¬ (lg_cmp (eJ S_24 o (0 : Int32).toNatClampNeg) x_25.toInt64) = 0 → (([] : List MV) = [] ∧ retL (some (.inl (0 : Int32))) S_24 (cs + (nc_i (∃ n m, syA v_1 v_2 n m) (nc_syC kz_5 Q_6 v_1.toNatClampNeg v_2.toNatClampNeg kC_7) + 4) + (5 + (aC_18 + bC_20 + kC_22))) (sl + (nc_i (∃ n m, syA v_1 v_2 n m) (nc_syZ kz_5 Q_6 v_1.toNatClampNeg v_2.toNatClampNeg kZ_8) + 24) + (30 + (aZ_19 + bZ_21 + kZ_23)))))))))) ∧ (¬ v9_26 = x_10 → (([] : List MV) = [] ∧ retL (some (.inl (0 : Int32))) S_24 (cs + (nc_i (∃ n m, syA v_1 v_2 n m) (nc_syC kz_5 Q_6 v_1.toNatClampNeg v_2.toNatClampNeg kC_7) + 4) + (5 + (aC_18 + bC_20 + kC_22))) (sl + (nc_i (∃ n m, syA v_1 v_2 n m) (nc_syZ kz_5 Q_6 v_1.toNatClampNeg v_2.toNatClampNeg kZ_8) + 24) + (30 + (aZ_19 + bZ_21 + kZ_23)))))))))))))))))))
  obtain ⟨rc, rs⟩ := room_le hL.1 hI hK (show jn ≤ 64 by omega) hcs hsl
  have hB : BdQ Q := hI.1.bd hL.2.1.bd
  obtain ⟨eG, eT, eK, etp, esl, eft, efo, emp, evw, ehu, eap, ean⟩ := id hI.1
  obtain ⟨kC, kZ, tB, pre, post, post2⟩ := sy_gh (A.getD (6 * jn + 1) 0) (A.getD (6 * jn + 2) 0) hL.1 hI hK
  obtain ⟨aC, aZ, bC, bZ, rC, rZ, rB, rpre, rpost, rzero⟩ := ry_gh (A.getD (6 * jn + 1) 0) (A.getD (6 * jn + 2) 0) hI hK
  have fit := fit_x hI hK (show jn ≤ 63 by omega) hcs hsl pre.1 pre.2
  have fr := fit_y (show jn ≤ 63 by omega) hcs hsl pre.1 pre.2 rpre.1 rpre.2
  have bad : ¬ (∃ n m, syA (A.getD (6 * jn + 1) 0) (A.getD (6 * jn + 2) 0) n m) → ((nc_i (∃ n m, syA (A.getD (6 * jn + 1) 0) (A.getD (6 * jn + 2) 0) n m) (nc_syC kz Q (A.getD (6 * jn + 1) 0).toNatClampNeg (A.getD (6 * jn + 2) 0).toNatClampNeg kC) + 4) + pCc Q kz ≤ pCc Q kz + 500 ∧ (nc_i (∃ n m, syA (A.getD (6 * jn + 1) 0) (A.getD (6 * jn + 2) 0) n m) (nc_syZ kz Q (A.getD (6 * jn + 1) 0).toNatClampNeg (A.getD (6 * jn + 2) 0).toNatClampNeg kZ) + 24) + pZc Q kz ≤ pZc Q kz + 4000) := fun w => by
    rw [nc_in w, nc_in w]; omega
  have bn : (np 4 (A.getD (6 * jn + 1) 0) ∨ np 4 (A.getD (6 * jn + 2) 0)) → ¬ (∃ n m, syA (A.getD (6 * jn + 1) 0) (A.getD (6 * jn + 2) 0) n m) := fun w ⟨n, i, h⟩ => w.elim (fun w => np_no w h.1 h.2.1) (fun w => np_no w h.2.2.1 h.2.2.2)
  refine ⟨_, hL.rd (k := 1) (by decide) (by omega) hA, _, hL.rd (k := 2) (by decide) (by omega) hA, rfl, F, X, kz, Q, kC, kZ, ⟨⟨hL.1, tB⟩, hL.lwo⟩, by omega, by omega, fun x9 S6 hq => ?_⟩
  have key : ∃ (c : Nat) (v : Int32) (Q1 : Ab) (X1 : Nat → GX) (kz1 : Nat → Nat) (F6 : Nat → Nat × Nat), x9 = nI c ∧ c < 8 ∧ ((∃ n m d, syA (A.getD (6 * jn + 1) 0) (A.getD (6 * jn + 2) 0) n m ∧ paT (Q.G n) (nc_syN Q n m) (some m) ≤ 32768 ∧ dlv (nc_syQ Q n m) m (nc_syP Q n m) d Q1 ∧ c = fthr Q1.ft ∧ (c = 0 → v = nI d)) ∨ (c = 1 ∧ (np 4 (A.getD (6 * jn + 1) 0) ∨ np 4 (A.getD (6 * jn + 2) 0)) ∧ Q1 = Q) ∨ (c = 4 ∧ ∃ n m, syA (A.getD (6 * jn + 1) 0) (A.getD (6 * jn + 2) 0) n m ∧ 32768 < paT (Q.G n) (nc_syN Q n m) (some m) ∧ Q1 = nc_syQ Q n m)) ∧ (((nc_i (∃ n m, syA (A.getD (6 * jn + 1) 0) (A.getD (6 * jn + 2) 0) n m) (nc_syC kz Q (A.getD (6 * jn + 1) 0).toNatClampNeg (A.getD (6 * jn + 2) 0).toNatClampNeg kC) + 4) + pCc Q kz ≤ pCc Q1 kz1 + 500) ∧ ((nc_i (∃ n m, syA (A.getD (6 * jn + 1) 0) (A.getD (6 * jn + 2) 0) n m) (nc_syZ kz Q (A.getD (6 * jn + 1) 0).toNatClampNeg (A.getD (6 * jn + 2) 0).toNatClampNeg kZ) + 24) + pZc Q kz ≤ pZc Q1 kz1 + 4000) ∧ LIk kz1 k2) ∧ Lw S6 F6 t mo o r A X1 kz1 Q1 z Y R k2 ∧ (x9 = 0 → eJ S6 o 0 = v.toInt64) := by
    rcases hq with ⟨rfl, v0, S0, ⟨n, i, d, q0, q1, q2, q3, Q1, X1, hd, hf, gW⟩, rfl⟩ | ⟨rfl, rfl, h1⟩ | ⟨rfl, n, i, X1, h1, h2, gW⟩ | ⟨rfl, n, i, d, q0, q3, Q1, X1, hd, hf, gW⟩ | ⟨rfl, n, i, d, q0, q3, Q1, X1, hd, hf, gW⟩ | ⟨rfl, n, i, d, q0, q3, Q1, X1, hd, hf, gW⟩ | ⟨rfl, n, i, d, q0, q3, Q1, X1, hd, hf, gW⟩
    · have gW : wtQ S1 S0 F t X1 (nc_tK (nc_sy4 kz Q n i) (nc_syP Q n i)) Q1 := gW
      have hf : Q1.ft = 0 := hf
      obtain ⟨F6, g1, g2⟩ := hL.ok (v := v0.toInt64) gW
      obtain ⟨g3, g4⟩ := post n i q0 q3
      exact ⟨0, v0, Q1, X1, _, F6, rfl, by decide, Or.inl ⟨n, i, d, q0, q3, hd, by rw [hf]; rfl, fun _ => q1⟩, ⟨(g3 d Q1 hd).1, (g3 d Q1 hd).2, g4⟩, g1, fun _ => g2⟩
    · obtain ⟨g1, g2⟩ := bad (bn h1)
      exact ⟨1, 0, Q, X, kz, F, rfl, by decide, Or.inr (Or.inl ⟨rfl, h1, rfl⟩), ⟨g1, g2, hK⟩, hL, fun w => absurd w (by decide)⟩
    · obtain ⟨F6, g1, -, -⟩ := hL.cls gW
      obtain ⟨⟨g3, g4⟩, g5⟩ := post2 n i h1 h2
      exact ⟨4, 0, _, X1, _, F6, rfl, by decide, Or.inr (Or.inr ⟨rfl, n, i, h1, h2, rfl⟩), ⟨g3, g4, g5⟩, g1, fun w => absurd w (by decide)⟩
    · have gW : wtQ S1 S6 F t X1 (nc_tK (nc_sy4 kz Q n i) (nc_syP Q n i)) Q1 := gW
      have hf : Q1.ft = 5 := hf
      obtain ⟨F6, g1, -, -⟩ := hL.cls gW
      obtain ⟨g3, g4⟩ := post n i q0 q3
      exact ⟨2, 0, Q1, X1, _, F6, rfl, by decide, Or.inl ⟨n, i, d, q0, q3, hd, by rw [hf]; rfl, fun w => absurd w (by decide)⟩, ⟨(g3 d Q1 hd).1, (g3 d Q1 hd).2, g4⟩, g1, fun w => absurd w (by decide)⟩
    · have gW : wtQ S1 S6 F t X1 (nc_tK (nc_sy4 kz Q n i) (nc_syP Q n i)) Q1 := gW
      have hf : Q1.ft = 6 := hf
      obtain ⟨F6, g1, -, -⟩ := hL.cls gW
      obtain ⟨g3, g4⟩ := post n i q0 q3
      exact ⟨3, 0, Q1, X1, _, F6, rfl, by decide, Or.inl ⟨n, i, d, q0, q3, hd, by rw [hf]; rfl, fun w => absurd w (by decide)⟩, ⟨(g3 d Q1 hd).1, (g3 d Q1 hd).2, g4⟩, g1, fun w => absurd w (by decide)⟩
    · have gW : wtQ S1 S6 F t X1 (nc_tK (nc_sy4 kz Q n i) (nc_syP Q n i)) Q1 := gW
      have hf : Q1.ft = 7 := hf
      obtain ⟨F6, g1, -, -⟩ := hL.cls gW
      obtain ⟨g3, g4⟩ := post n i q0 q3
      exact ⟨4, 0, Q1, X1, _, F6, rfl, by decide, Or.inl ⟨n, i, d, q0, q3, hd, by rw [hf]; rfl, fun w => absurd w (by decide)⟩, ⟨(g3 d Q1 hd).1, (g3 d Q1 hd).2, g4⟩, g1, fun w => absurd w (by decide)⟩
    · have gW : wtQ S1 S6 F t X1 (nc_tK (nc_sy4 kz Q n i) (nc_syP Q n i)) Q1 := gW
      have hf : 1 ≤ Q1.ft ∧ Q1.ft ≤ 4 := hf
      obtain ⟨F6, g1, -, -⟩ := hL.cls gW
      obtain ⟨g3, g4⟩ := post n i q0 q3
      exact ⟨1, 0, Q1, X1, _, F6, rfl, by decide, Or.inl ⟨n, i, d, q0, q3, hd, fthr_1 hf, fun w => absurd w (by decide)⟩, ⟨(g3 d Q1 hd).1, (g3 d Q1 hd).2, g4⟩, g1, fun w => absurd w (by decide)⟩
  obtain ⟨c, v, Q1, X1, kz1, F6, hx, hc8, hc, ⟨p1, p2, hK1⟩, hL6, hv⟩ := key
  refine ⟨_, hL6.rd (k := 1) (by decide) (by omega) hA, _, hL6.rd (k := 2) (by decide) (by omega) hA, rfl, F6, z, Y, R, k2, aC, aZ, bC, bZ, rC, rZ, ⟨hL6.2.1, hI.abc, hK.2.2.2.2.1, rB⟩, by omega, by omega, fun v9 S9 hr => ?_⟩
  have key2 : ∃ (th : Nat) (R1 : Rb) (k21 : Nat → Nat), ((∃ n m f R' c', n < 4 ∧ (A.getD (6 * jn + 1) 0) = nI n ∧ m < 4 ∧ (A.getD (6 * jn + 2) 0) = nI m ∧ syL R n m ≤ 32768 ∧ rdX (syR0 R n m) m (syW0 R n m) k2 R' k21 f c' ∧ v9 = (if f = 0 then nI c' else 0) ∧ th = fthr f ∧ R1 = R'.sQ (R'.Q.sFt f)) ∨ (th = 1 ∧ (np 4 (A.getD (6 * jn + 1) 0) ∨ np 4 (A.getD (6 * jn + 2) 0)) ∧ R1 = R) ∨ (th = 4 ∧ ∃ n m, n < 4 ∧ (A.getD (6 * jn + 1) 0) = nI n ∧ m < 4 ∧ (A.getD (6 * jn + 2) 0) = nI m ∧ 32768 < syL R n m ∧ R1 = syR0 R n m)) ∧ ((5 + (aC + bC + rC)) + pCr R k2 ≤ pCr R1 k21 + 500 ∧ (30 + (aZ + bZ + rZ)) + pZr R k2 ≤ pZr R1 k21 + 4000) ∧ (∀ kz', LIk kz' k2 → LIk kz' k21) ∧ mdW S6 S9 F6 mo R1 k21 th := by
    rcases hr with ⟨n, i, q0, q1, q2, q3, ⟨-, -, nM⟩ | ⟨-, q4, f, R', k21, c', g1, g2, g3, g4, gW⟩ | ⟨-, q4, q5, gW⟩⟩ | ⟨h1, q1, gW⟩
    · exact absurd (sy_li hI q0 q2).2 nM
    · obtain ⟨u1, u2⟩ := rpost n i R' k21 f c' q0 q1 q2 q3 q4 g1
      exact ⟨fthr f, _, k21, Or.inl ⟨n, i, f, R', c', q0, q1, q2, q3, q4, g1, g4, rfl, rfl⟩, u1, u2, gW⟩
    · obtain ⟨z1, z2⟩ := rzero (fun ⟨n', i', a1, a2, a3, a4, a5⟩ => by
        have e1 := nI_ij q1 a2 (by omega) (by omega)
        have e2 := nI_ij q3 a4 (by omega) (by omega)
        subst e1 e2
        omega)
      obtain ⟨e1, e2⟩ := pr_sy R n i k2
      exact ⟨4, _, k2, Or.inr (Or.inr ⟨rfl, n, i, q0, q1, q2, q3, q4, rfl⟩), ⟨by omega, by omega⟩, fun _ q => q, gW⟩
    · obtain ⟨z1, z2⟩ := rzero (fun ⟨n, i, a1, a2, a3, a4, a5⟩ => h1.elim (fun w => np_no w a1 a2) (fun w => np_no w a3 a4))
      exact ⟨1, R, k2, Or.inr (Or.inl ⟨rfl, h1, rfl⟩), ⟨by omega, by omega⟩, fun _ q => q, gW⟩
  obtain ⟨th, R1, k21, hr, ⟨r1, r2⟩, hKt, hw⟩ := key2
  obtain ⟨F9, z9, Y9, hL9, hth, -, hj9⟩ := hL6.ref hw
  obtain ⟨a1, a2, hI1⟩ := ag_sy hI hc hr
  refine lw_cmp hL9 (by rw [hth, a1, ← hx]) (fun w => ?_) (by omega) (by omega) (nx_k hk hj hA hL9 hI1 (hKt kz1 hK1) hcs hsl p1 p2 r1 r2 (by omega) (by omega))
  rw [hj9, hv w, a2 (nI_z hc8 (hx.symm.trans w))]
