/-! ===== The law: calls that may enlarge rows ===== -/
def kzB (kz : Nat → Nat) : Prop := kz 0 ≤ 32768 ∧ kz 1 ≤ 32768 ∧ (∀ k, k < 8 → kz (20 + k) ≤ 32768) ∧ (∀ k, k < 6 → kz (40 + k) ≤ 32768) ∧ kz 10 ≤ 16384 ∧ kz 12 ≤ 32768 ∧ (∀ p, p < 4 → kz (30 + p) ≤ 12288) ∧ kz 50 ≤ 32768
theorem pc_b {Q : Ab} {kz : Nat → Nat} (hg : ∀ p, p < 4 → (Q.G p).ok) (hk : kzB kz) : pCc Q kz ≤ 295040 ∧ pZc Q kz ≤ 4262944 := by
  obtain ⟨b0, b1, b2, b4, b10, b12, b3, b5⟩ := hk
  have g : ∀ p, p < 4 → gcC (Q.G p) ≤ 49184 ∧ gcZ (Q.G p) ≤ 705288 ∧ grC (Q.G p) ≤ 8192 ∧ grZ (Q.G p) ≤ 32768 := fun p hp => gc_le (hg p hp)
  have s1 : smN (fun p => gcC (Q.G p)) 4 ≤ 49184 * 4 := smN_c (fun p hp => (g p hp).1)
  have s2 : smN (fun p => gcZ (Q.G p)) 4 ≤ 705288 * 4 := smN_c (fun p hp => (g p hp).2.1)
  have s5 : smN (fun k => kz (20 + k)) 8 ≤ 32768 * 8 := smN_c b2
  have s6 : smN (fun k => kz (40 + k)) 6 ≤ 32768 * 6 := smN_c b4
  have s7 : smN (fun p => kz (30 + p)) 4 ≤ 12288 * 4 := smN_c b3
  have s9 : pO (kz 50) ≤ 98304 := by unfold pO; split <;> omega
  unfold pCc pZc
  omega
theorem pr_b {R : Rb} {k2 : Nat → Nat} (hg : ∀ p, p < 4 → (R.Q.G p).ok) (h1 : k2 40 ≤ 16384) (h2 : k2 47 ≤ 65536) (h3 : k2 24 ≤ 65536) (h4 : k2 9 ≤ 32768) : pCr R k2 ≤ 212992 ∧ pZr R k2 ≤ 1081344 := by
  have g : ∀ p, p < 4 → gcC (R.Q.G p) ≤ 49184 ∧ gcZ (R.Q.G p) ≤ 705288 ∧ grC (R.Q.G p) ≤ 8192 ∧ grZ (R.Q.G p) ≤ 32768 := fun p hp => gc_le (hg p hp)
  have s3 : smN (fun p => grC (R.Q.G p)) 4 ≤ 8192 * 4 := smN_c (fun p hp => (g p hp).2.2.1)
  have s4 : smN (fun p => grZ (R.Q.G p)) 4 ≤ 32768 * 4 := smN_c (fun p hp => (g p hp).2.2.2)
  have s8 : fuS R ≤ 1 * 8 := smN_c (fun i _ => by split <;> decide)
  unfold pCr pZr
  omega
section KZB
variable {S : MM} {F : Nat → Nat × Nat} {t : Nat} {X : Nat → GX} {kz k2 : Nat → Nat} {Q : Ab} {R : Rb}
theorem kzB.of (hW : WT S F t X kz Q) (hk : LIk kz k2) : kzB kz := by
  obtain ⟨b0, b1, b2, b4, b10, b12, -⟩ := hW.kb
  exact ⟨b0.2, b1.2, fun k h => (b2 k h).2, fun k h => (b4 k h).2, hk.1, b12.2, fun p h => (hk.2.1 p h).2, hk.2.2.1⟩
theorem pc_10 (Q : Ab) (kz : Nat → Nat) (v : Nat) : pCc Q (upF kz 10 v) + kz 10 = pCc Q kz + v ∧ pZc Q (upF kz 10 v) + 2 * kz 10 = pZc Q kz + 2 * v := by
  have a1 : smN (fun k => upF kz 10 v (20 + k)) 8 = smN (fun k => kz (20 + k)) 8 := smN_cg (fun u _ => upF_o (by omega))
  have a2 : smN (fun k => upF kz 10 v (30 + k)) 4 = smN (fun k => kz (30 + k)) 4 := smN_cg (fun u _ => upF_o (by omega))
  have a3 : smN (fun k => upF kz 10 v (40 + k)) 6 = smN (fun k => kz (40 + k)) 6 := smN_cg (fun u _ => upF_o (by omega))
  unfold pCc pZc
  rw [a1, a2, a3, upF_s, upF_o (show 12 ≠ 10 by decide), upF_o (show 0 ≠ 10 by decide), upF_o (show 1 ≠ 10 by decide), upF_o (show 50 ≠ 10 by decide)]
  omega
theorem pc_12 (Q : Ab) (kz : Nat → Nat) (v : Nat) : pCc Q (upF kz 12 v) + kz 12 = pCc Q kz + v ∧ pZc Q (upF kz 12 v) + 2 * kz 12 = pZc Q kz + 2 * v := by
  have a1 : smN (fun k => upF kz 12 v (20 + k)) 8 = smN (fun k => kz (20 + k)) 8 := smN_cg (fun u _ => upF_o (by omega))
  have a2 : smN (fun k => upF kz 12 v (30 + k)) 4 = smN (fun k => kz (30 + k)) 4 := smN_cg (fun u _ => upF_o (by omega))
  have a3 : smN (fun k => upF kz 12 v (40 + k)) 6 = smN (fun k => kz (40 + k)) 6 := smN_cg (fun u _ => upF_o (by omega))
  unfold pCc pZc
  rw [a1, a2, a3, upF_s, upF_o (show 10 ≠ 12 by decide), upF_o (show 0 ≠ 12 by decide), upF_o (show 1 ≠ 12 by decide), upF_o (show 50 ≠ 12 by decide)]
  omega
theorem pc_0 (Q : Ab) (kz : Nat → Nat) (v : Nat) : pCc Q (upF kz 0 v) = pCc Q kz ∧ pZc Q (upF kz 0 v) + 2 * kz 0 = pZc Q kz + 2 * v := by
  have a1 : smN (fun k => upF kz 0 v (20 + k)) 8 = smN (fun k => kz (20 + k)) 8 := smN_cg (fun u _ => upF_o (by omega))
  have a2 : smN (fun k => upF kz 0 v (30 + k)) 4 = smN (fun k => kz (30 + k)) 4 := smN_cg (fun u _ => upF_o (by omega))
  have a3 : smN (fun k => upF kz 0 v (40 + k)) 6 = smN (fun k => kz (40 + k)) 6 := smN_cg (fun u _ => upF_o (by omega))
  unfold pCc pZc
  rw [a1, a2, a3, upF_s, upF_o (show 10 ≠ 0 by decide), upF_o (show 12 ≠ 0 by decide), upF_o (show 1 ≠ 0 by decide), upF_o (show 50 ≠ 0 by decide)]
  omega
theorem pc_20 (Q : Ab) (kz : Nat → Nat) {i v : Nat} (hi : i < 8) (hv : kz (20 + i) ≤ v) : pCc Q (upF kz (20 + i) v) = pCc Q kz ∧ pZc Q (upF kz (20 + i) v) + 2 * kz (20 + i) = pZc Q kz + 2 * v := by
  have a1 : smN (fun k => upF kz (20 + i) v (20 + k)) 8 = smN (fun k => kz (20 + k)) 8 + (v - kz (20 + i)) := smN_up (s := i) (by show upF kz (20 + i) v (20 + i) = _; rw [upF_s]; omega) (fun u hu => upF_o (by omega)) hi
  have a2 : smN (fun k => upF kz (20 + i) v (30 + k)) 4 = smN (fun k => kz (30 + k)) 4 := smN_cg (fun u _ => upF_o (by omega))
  have a3 : smN (fun k => upF kz (20 + i) v (40 + k)) 6 = smN (fun k => kz (40 + k)) 6 := smN_cg (fun u _ => upF_o (by omega))
  unfold pCc pZc
  rw [a1, a2, a3, upF_o (show 10 ≠ 20 + i by omega), upF_o (show 12 ≠ 20 + i by omega), upF_o (show 0 ≠ 20 + i by omega), upF_o (show 1 ≠ 20 + i by omega), upF_o (show 50 ≠ 20 + i by omega)]
  omega
theorem GT.od_n {G : Gr} {T : Tr} (h : GT G T) : T.od.length ≤ G.n := by
  have hs : T.od ⊆ (List.range G.n).map (· + 1) := fun x hx => by
    obtain ⟨k, rfl, k1, -⟩ := (h.2.2.2.1 x).1 hx
    exact List.mem_map.2 ⟨k, List.mem_range.2 k1, rfl⟩
  have := List.Nodup.length_le_of_subset h.2.2.1.2.1 hs
  rw [List.length_map, List.length_range] at this
  exact this
/-- a call's cost fits: it is a difference of the potentials -/
theorem fit_c {j cs sl C Z : Nat} {Q' : Ab} {kz' : Nat → Nat} (hI : LIv Q R) (hk : LIk kz k2) (hj : j ≤ 63) (hcs : cs ≤ cB j Q kz R k2) (hsl : sl ≤ zB j Q kz R k2) (hg : ∀ p, p < 4 → (Q'.G p).ok) (hb : kzB kz') (h1 : C + pCc Q kz ≤ pCc Q' kz' + 500) (h2 : Z + pZc Q kz ≤ pZc Q' kz' + 4000) : cs + C ≤ 600000 ∧ sl + Z ≤ 7300000 := by
  obtain ⟨p1, p2⟩ := pc_b hg hb
  have hr : ∀ p, p < 4 → (R.Q.G p).ok := fun p hp => by rw [hI.1.1]; exact (hI.2.2.2.1 p hp).1.1
  obtain ⟨p3, p4⟩ := pr_b hr hk.2.2.2.2.1 hk.2.2.2.2.2.2.1 hk.2.2.2.2.2.2.2.1 hk.2.2.2.2.2.2.2.2.1.1
  unfold cB at hcs
  unfold zB at hsl
  omega
end KZB
