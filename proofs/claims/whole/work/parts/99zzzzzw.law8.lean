/-! ===== The law: own events, bounds ahead of a call ===== -/
theorem rA_add (c : Nat) : ∀ j, rA1 0 (c + j) = rA1 0 c + rA1 c j ∧ rA2 0 (c + j) = rA2 0 c + rA2 c j
  | 0 => ⟨rfl, rfl⟩
  | j + 1 => by
    obtain ⟨h1, h2⟩ := rA_add c j
    rw [← Nat.add_assoc, rA1, rA2, rA1, rA2, Nat.zero_add, h1, h2, Nat.add_assoc, Nat.add_assoc]
    exact ⟨rfl, rfl⟩
theorem OwSl.s16 {G : Gr} {p s : Nat} (h : OwSl G p s) (hG : G.ok) : s < 16 ∧ (s < G.m ∨ G.m + 1 ≤ 16) := by
  have := hG.hm
  rcases h with ⟨h1, -⟩ | ⟨h1, h2, -⟩ <;> omega
theorem run_b {G : Gr} {p j : Nat} (hG : G.ok) (h : roP G p j) : runC G (owN G p) j + gcC G ≤ 49184 ∧ runZ G (owN G p) j + gcZ G ≤ 705288 ∧ rA1 (G.cn (owN G p)) j + grC G ≤ 8192 ∧ rA2 (G.cn (owN G p)) j + grZ G ≤ 32768 := by
  rcases Nat.eq_zero_or_pos j with rfl | hj
  · obtain ⟨b1, b2, b3, b4⟩ := gc_le hG
    have z1 : runC G (owN G p) 0 = 0 := by
      unfold runC
      rw [if_pos rfl, Nat.add_zero, Nat.add_zero, Nat.sub_self, Nat.sub_self]
      split <;> rfl
    have z2 : runZ G (owN G p) 0 = 0 := by
      unfold runZ
      rw [if_pos rfl, Nat.add_zero, Nat.add_zero, Nat.sub_self, Nat.sub_self]
      split <;> rfl
    rw [z1, z2, rA1, rA2]
    omega
  · obtain ⟨h1, h2⟩ := h.resolve_left (by omega)
    obtain ⟨s1, s2⟩ := (owN_ok h2).s16 hG
    generalize owN G p = s at *
    have hm := hG.hm
    have hs : smN (fun t => G.cn t) 16 ≤ G.n := cn_sum G G.n
    have u0 : smN (fun t => upF G.cn s (G.cn s + j) t) 16 = smN (fun t => G.cn t) 16 + j := smN_up (s := s) (by rw [upF_s]) (fun t ht => upF_o ht) s1
    have m1 := capC_mono (G.cn s) j
    have m2 := capZ_mono (G.cn s) j
    have m3 := capC_mono G.n j
    have m4 := capZ_mono G.n j
    have u1 : smN (fun t => capC (upF G.cn s (G.cn s + j) t)) 16 = smN (fun t => capC (G.cn t)) 16 + (capC (G.cn s + j) - capC (G.cn s)) := smN_up (s := s) (by show capC (upF G.cn s (G.cn s + j) s) = _; rw [upF_s]; omega) (fun t ht => by show capC (upF G.cn s (G.cn s + j) t) = _; rw [upF_o ht]) s1
    have u2 : smN (fun t => capZ (upF G.cn s (G.cn s + j) t)) 16 = smN (fun t => capZ (G.cn t)) 16 + (capZ (G.cn s + j) - capZ (G.cn s)) := smN_up (s := s) (by show capZ (upF G.cn s (G.cn s + j) s) = _; rw [upF_s]; omega) (fun t ht => by show capZ (upF G.cn s (G.cn s + j) t) = _; rw [upF_o ht]) s1
    obtain ⟨q1, q2⟩ := rA_add (G.cn s) j
    have u3 : smN (fun t => rA1 0 (upF G.cn s (G.cn s + j) t)) 16 = smN (fun t => rA1 0 (G.cn t)) 16 + rA1 (G.cn s) j := smN_up (s := s) (by show rA1 0 (upF G.cn s (G.cn s + j) s) = _; rw [upF_s, q1]) (fun t ht => by show rA1 0 (upF G.cn s (G.cn s + j) t) = _; rw [upF_o ht]) s1
    have u4 : smN (fun t => rA2 0 (upF G.cn s (G.cn s + j) t)) 16 = smN (fun t => rA2 0 (G.cn t)) 16 + rA2 (G.cn s) j := smN_up (s := s) (by show rA2 0 (upF G.cn s (G.cn s + j) s) = _; rw [upF_s, q2]) (fun t ht => by show rA2 0 (upF G.cn s (G.cn s + j) t) = _; rw [upF_o ht]) s1
    have h3 : smN (fun t => capC (upF G.cn s (G.cn s + j) t)) 16 ≤ 1 * smN (fun t => upF G.cn s (G.cn s + j) t) 16 + 0 * 16 := smN_lin (fun t _ => by have := capC_n (upF G.cn s (G.cn s + j) t); omega)
    have h4 : smN (fun t => capZ (upF G.cn s (G.cn s + j) t)) 16 ≤ 8 * smN (fun t => upF G.cn s (G.cn s + j) t) 16 + 40 * 16 := smN_lin (fun t _ => capZ_8 (upF G.cn s (G.cn s + j) t))
    have h5 : smN (fun t => rA1 0 (upF G.cn s (G.cn s + j) t)) 16 ≤ 1 * smN (fun t => upF G.cn s (G.cn s + j) t) 16 + 0 * 16 := smN_lin (fun t _ => by have := (rA_n (upF G.cn s (G.cn s + j) t)).1; omega)
    have h6 : smN (fun t => rA2 0 (upF G.cn s (G.cn s + j) t)) 16 ≤ 4 * smN (fun t => upF G.cn s (G.cn s + j) t) 16 + 0 * 16 := smN_lin (fun t _ => by have := (rA_n (upF G.cn s (G.cn s + j) t)).2; omega)
    have h7 := capC_n (G.n + j)
    have h8 := capZ_8 (G.n + j)
    unfold gcC gcZ grC grZ runC runZ
    refine ⟨?_, ?_, by omega, by omega⟩
    · split
      · omega
      · rw [if_neg (by omega)]; omega
    · split
      · omega
      · rw [if_neg (by omega)]; omega
theorem smN_x {f : Nat → Nat} {n B X : Nat} (hn : n < 4) (h : ∀ p, p < 4 → f p ≤ B) (hx : f n + X ≤ B) : smN f 4 + X ≤ B * 4 := by
  rw [← smN_up (f := f) (g := upF f n (f n + X)) (s := n) upF_s (fun t ht => upF_o ht) hn]
  refine smN_c (fun t ht => ?_)
  by_cases e : t = n
  · rw [e, upF_s]; exact hx
  · rw [upF_o e]; exact h t ht
theorem pc_w {Q : Ab} {kz : Nat → Nat} {n X Z E : Nat} (hg : ∀ p, p < 4 → (Q.G p).ok) (hk : kzB kz) (hn : n < 4) (h1 : gcC (Q.G n) + X ≤ 49184) (h2 : gcZ (Q.G n) + Z ≤ 705288) (h3 : kz (30 + n) + E ≤ 12288) : pCc Q kz + X + E ≤ 295040 ∧ pZc Q kz + Z + 4 * E ≤ 4262944 := by
  obtain ⟨b0, b1, b2, b4, b10, b12, b3, b5⟩ := hk
  have s1 : smN (fun p => gcC (Q.G p)) 4 + X ≤ 49184 * 4 := smN_x hn (fun p hp => (gc_le (hg p hp)).1) h1
  have s2 : smN (fun p => gcZ (Q.G p)) 4 + Z ≤ 705288 * 4 := smN_x hn (fun p hp => (gc_le (hg p hp)).2.1) h2
  have s5 : smN (fun k => kz (20 + k)) 8 ≤ 32768 * 8 := smN_c b2
  have s6 : smN (fun k => kz (40 + k)) 6 ≤ 32768 * 6 := smN_c b4
  have s7 : smN (fun p => kz (30 + p)) 4 + E ≤ 12288 * 4 := smN_x hn b3 h3
  have s9 : pO (kz 50) ≤ 98304 := by unfold pO; split <;> omega
  unfold pCc pZc
  omega
theorem pr_w {R : Rb} {k2 : Nat → Nat} {n X Z : Nat} (hg : ∀ p, p < 4 → (R.Q.G p).ok) (h1 : k2 40 ≤ 16384) (h2 : k2 47 ≤ 65536) (h3 : k2 24 ≤ 65536) (h4 : k2 9 ≤ 32768) (hn : n < 4) (h5 : grC (R.Q.G n) + X ≤ 8192) (h6 : grZ (R.Q.G n) + Z ≤ 32768) : pCr R k2 + X ≤ 212992 ∧ pZr R k2 + Z ≤ 1081344 := by
  have s3 : smN (fun p => grC (R.Q.G p)) 4 + X ≤ 8192 * 4 := smN_x hn (fun p hp => (gc_le (hg p hp)).2.2.1) h5
  have s4 : smN (fun p => grZ (R.Q.G p)) 4 + Z ≤ 32768 * 4 := smN_x hn (fun p hp => (gc_le (hg p hp)).2.2.2) h6
  have s8 : fuS R ≤ 1 * 8 := smN_c (fun i _ => by split <;> decide)
  unfold pCr pZr
  omega
section OWB
variable {Q : Ab} {R : Rb} {kz k2 : Nat → Nat} {n j : Nat}
theorem LIv.el (hI : LIv Q R) (hn : n < 4) : (Q.E n).length ≤ 8192 := by
  obtain ⟨h1, -, h3⟩ := hI.2.2.2.1 n hn
  have := h3.1
  have := h3.2.1
  have := h1.1.hn
  omega
theorem ow_b (hI : LIv Q R) (hK : LIk kz k2) (hb : kzB kz) (hn : n < 4) (hj : roP (Q.G n) n j) : runC (Q.G n) (owN (Q.G n) n) j + ekC (kz (30 + n)) (Q.E n).length j + pCc Q kz ≤ 295041 ∧ runZ (Q.G n) (owN (Q.G n) n) j + ekZ (kz (30 + n)) (Q.E n).length j + pZc Q kz ≤ 4262946 := by
  obtain ⟨r1, r2, -⟩ := run_b (hI.2.2.2.1 n hn).1.1 hj
  obtain ⟨k1, k3⟩ := hK.2.1 n hn
  obtain ⟨l1, l2, l3⟩ := alK_z (l := (Q.E n).length) k1
  have l4 := alK_le k3 (hI.el hn)
  obtain ⟨w1, w2⟩ := pc_w (E := alK (kz (30 + n)) (Q.E n).length - kz (30 + n)) (fun p hp => (hI.2.2.2.1 p hp).1.1) hb hn (Nat.le_trans (Nat.le_of_eq (Nat.add_comm _ _)) r1) (Nat.le_trans (Nat.le_of_eq (Nat.add_comm _ _)) r2) (by omega)
  unfold ekC ekZ
  split <;> omega
theorem or_b (hI : LIv Q R) (hK : LIk kz k2) (hn : n < 4) (hj : roP (R.Q.G n) n j) : dC1 R n j + pCr R k2 ≤ 212992 ∧ dC2 R n j + pZr R k2 ≤ 1081344 := by
  have hg : ∀ p, p < 4 → (R.Q.G p).ok := fun p hp => by rw [hI.1.1]; exact (hI.2.2.2.1 p hp).1.1
  obtain ⟨-, -, r3, r4⟩ := run_b (hg n hn) hj
  obtain ⟨w1, w2⟩ := pr_w hg hK.2.2.2.2.1 hK.2.2.2.2.2.2.1 hK.2.2.2.2.2.2.2.1 hK.2.2.2.2.2.2.2.2.1.1 hn (Nat.le_trans (Nat.le_of_eq (Nat.add_comm _ _)) r3) (Nat.le_trans (Nat.le_of_eq (Nat.add_comm _ _)) r4)
  unfold dC1 dC2
  omega
/-- potentials where a peer's graph and edits changed -/
theorem pc_pe {G' : Gr} {T' : Tr} {E' : List (Nat × Nat)} {d dz v e : Nat} (hn : n < 4) (h1 : gcC G' = gcC (Q.G n) + d) (h2 : gcZ G' = gcZ (Q.G n) + dz) (hv : v = kz (30 + n) + e) : pCc (Q.sPe n G' T' E') (upF kz (30 + n) v) = pCc Q kz + d + e ∧ pZc (Q.sPe n G' T' E') (upF kz (30 + n) v) = pZc Q kz + dz + 4 * e := by
  have s1 : smN (fun p => gcC ((Q.sPe n G' T' E').G p)) 4 = smN (fun p => gcC (Q.G p)) 4 + d := smN_up (s := n) (by show gcC (upF Q.G n G' n) = _; rw [upF_s]; exact h1) (fun t ht => by show gcC (upF Q.G n G' t) = _; rw [upF_o ht]) hn
  have s2 : smN (fun p => gcZ ((Q.sPe n G' T' E').G p)) 4 = smN (fun p => gcZ (Q.G p)) 4 + dz := smN_up (s := n) (by show gcZ (upF Q.G n G' n) = _; rw [upF_s]; exact h2) (fun t ht => by show gcZ (upF Q.G n G' t) = _; rw [upF_o ht]) hn
  have a1 : smN (fun k => upF kz (30 + n) v (20 + k)) 8 = smN (fun k => kz (20 + k)) 8 := smN_cg (fun u _ => upF_o (by omega))
  have a2 : smN (fun k => upF kz (30 + n) v (30 + k)) 4 = smN (fun k => kz (30 + k)) 4 + e := smN_up (s := n) (by show upF kz (30 + n) v (30 + n) = _; rw [upF_s]; exact hv) (fun u hu => upF_o (by omega)) hn
  have a3 : smN (fun k => upF kz (30 + n) v (40 + k)) 6 = smN (fun k => kz (40 + k)) 6 := smN_cg (fun u _ => upF_o (by omega))
  unfold pCc pZc
  rw [s1, s2, a1, a2, a3, upF_o (show 10 ≠ 30 + n by omega), upF_o (show 12 ≠ 30 + n by omega), upF_o (show 0 ≠ 30 + n by omega), upF_o (show 1 ≠ 30 + n by omega), upF_o (show 50 ≠ 30 + n by omega)]
  omega
theorem pr_pe {G' : Gr} {T' : Tr} {K : Nat → Nat → Nat} {C : List (Bool × Nat × Nat)} {d dz : Nat} (hn : n < 4) (h1 : grC G' = grC (R.Q.G n) + d) (h2 : grZ G' = grZ (R.Q.G n) + dz) : pCr (R.sP n G' T' K C) k2 = pCr R k2 + d ∧ pZr (R.sP n G' T' K C) k2 = pZr R k2 + dz := by
  have s1 : smN (fun p => grC ((R.sP n G' T' K C).Q.G p)) 4 = smN (fun p => grC (R.Q.G p)) 4 + d := smN_up (s := n) (by show grC (upF R.Q.G n G' n) = _; rw [upF_s]; exact h1) (fun t ht => by show grC (upF R.Q.G n G' t) = _; rw [upF_o ht]) hn
  have s2 : smN (fun p => grZ ((R.sP n G' T' K C).Q.G p)) 4 = smN (fun p => grZ (R.Q.G p)) 4 + dz := smN_up (s := n) (by show grZ (upF R.Q.G n G' n) = _; rw [upF_s]; exact h2) (fun t ht => by show grZ (upF R.Q.G n G' t) = _; rw [upF_o ht]) hn
  have s3 : fuS (R.sP n G' T' K C) = fuS R := rfl
  unfold pCr pZr
  rw [s1, s2, s3]
  omega
theorem LIk.e30 (h : LIk kz k2) {v : Nat} (h1 : v = 0 ∨ 10 ≤ v) (h2 : v ≤ 12288) (hn : n < 4) : LIk (upF kz (30 + n) v) k2 := by
  obtain ⟨a1, a2, a3, a4⟩ := h
  refine ⟨by rw [upF_o (by omega)]; exact a1, fun p hp => ?_, by rw [upF_o (by omega)]; exact a3, a4⟩
  by_cases e : p = n
  · rw [e, upF_s]; exact ⟨h1, h2⟩
  · rw [upF_o (by omega)]; exact a2 p hp
/-- a run of own events: costs against potentials -/
theorem ow_po {L : List (Option Nat × Nat)} {G' : Gr} {T' : Tr} {v : Nat} (E' : List (Nat × Nat)) (hI : LIv Q R) (hK : LIk kz k2) (hn : n < 4) (hj : roP (Q.G n) n L.length) (hr : Run n (owN (Q.G n) n) L (Q.G n) (Q.T n) G' T') (hv : v = if L.length = 0 then kz (30 + n) else alK (kz (30 + n)) (Q.E n).length) : runC (Q.G n) (owN (Q.G n) n) L.length + ekC (kz (30 + n)) (Q.E n).length L.length + pCc Q kz ≤ pCc (Q.sPe n G' T' E') (upF kz (30 + n) v) + 1 ∧ runZ (Q.G n) (owN (Q.G n) n) L.length + ekZ (kz (30 + n)) (Q.E n).length L.length + pZc Q kz ≤ pZc (Q.sPe n G' T' E') (upF kz (30 + n) v) + 2 ∧ LIk (upF kz (30 + n) v) k2 := by
  have gt := (hI.2.2.2.1 n hn).1
  obtain ⟨r1, r2, -⟩ := hr.pot (fun w => roP.ow hj (fun q => w (List.eq_nil_of_length_eq_zero q))) gt
  obtain ⟨k1, k3⟩ := hK.2.1 n hn
  obtain ⟨l1, l2, l3⟩ := alK_z (l := (Q.E n).length) k1
  have l4 := alK_le k3 (hI.el hn)
  by_cases c : L.length = 0
  · rw [if_pos c] at hv
    obtain ⟨w1, w2⟩ := pc_pe (T' := T') (E' := E') (e := 0) hn r1 r2 hv
    rw [w1, w2]
    unfold ekC ekZ
    rw [if_pos c, if_pos c]
    exact ⟨by omega, by omega, hK.e30 (by rw [hv]; exact k1) (by omega) hn⟩
  · rw [if_neg c] at hv
    obtain ⟨w1, w2⟩ := pc_pe (kz := kz) (T' := T') (E' := E') (v := v) (e := alK (kz (30 + n)) (Q.E n).length - kz (30 + n)) hn r1 r2 (by omega)
    rw [w1, w2]
    unfold ekC ekZ
    rw [if_neg c, if_neg c]
    exact ⟨by omega, by omega, hK.e30 (by rw [hv]; exact l2) (by omega) hn⟩
theorem or_po {L : List (Option Nat × Nat)} {G' : Gr} {T' : Tr} (K : Nat → Nat → Nat) (C : List (Bool × Nat × Nat)) (hI : LIv Q R) (hn : n < 4) (hj : roP (R.Q.G n) n L.length) (hr : Run n (owN (R.Q.G n) n) L (R.Q.G n) (R.Q.T n) G' T') : dC1 R n L.length + pCr R k2 = pCr (R.sP n G' T' K C) k2 ∧ dC2 R n L.length + pZr R k2 = pZr (R.sP n G' T' K C) k2 := by
  have gt : GT (R.Q.G n) (R.Q.T n) := by rw [hI.1.1, hI.1.2.1]; exact (hI.2.2.2.1 n hn).1
  obtain ⟨-, -, r1, r2⟩ := hr.pot (fun w => roP.ow hj (fun q => w (List.eq_nil_of_length_eq_zero q))) gt
  obtain ⟨w1, w2⟩ := pr_pe (k2 := k2) (T' := T') (K := K) (C := C) hn r1 r2
  rw [w1, w2]
  unfold dC1 dC2
  omega
theorem fit_x {i cs sl C Z : Nat} (hI : LIv Q R) (hk : LIk kz k2) (hj : i ≤ 63) (hcs : cs ≤ cB i Q kz R k2) (hsl : sl ≤ zB i Q kz R k2) (h1 : C + pCc Q kz ≤ 295540) (h2 : Z + pZc Q kz ≤ 4266944) : cs + C ≤ 600000 ∧ sl + Z ≤ 7300000 := by
  have hr : ∀ p, p < 4 → (R.Q.G p).ok := fun p hp => by rw [hI.1.1]; exact (hI.2.2.2.1 p hp).1.1
  obtain ⟨p3, p4⟩ := pr_b hr hk.2.2.2.2.1 hk.2.2.2.2.2.2.1 hk.2.2.2.2.2.2.2.1 hk.2.2.2.2.2.2.2.2.1.1
  unfold cB at hcs
  unfold zB at hsl
  omega
theorem fit_y {i cs sl C Z C2 Z2 : Nat} (hj : i ≤ 63) (hcs : cs ≤ cB i Q kz R k2) (hsl : sl ≤ zB i Q kz R k2) (h1 : C + pCc Q kz ≤ 295540) (h2 : Z + pZc Q kz ≤ 4266944) (h3 : C2 + pCr R k2 ≤ 213492) (h4 : Z2 + pZr R k2 ≤ 1085344) : cs + C + C2 ≤ 600000 ∧ sl + Z + Z2 ≤ 7300000 := by
  unfold cB at hcs
  unfold zB at hsl
  omega
end OWB
