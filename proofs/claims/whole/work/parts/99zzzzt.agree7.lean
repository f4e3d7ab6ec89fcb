/-! ===== Both sides agree: find, view, alter, anchor, send ===== -/
section AGT
variable {Q Q1 : Ab} {R R1 : Rb} {p x y s a b w v v' : Int32} {c th : Nat}
theorem ag_fi (hB : BdQ Q) (hR : Rel Q R) (hc : (c = 0 ∧ ∃ n i sy, n < 4 ∧ p = nI n ∧ i ≤ visN (Q.G n) (Q.T n) ∧ x = nI i ∧ syms Q.tp = some sy ∧ v = findT Q.tp i (txtG (Q.G n) (Q.T n)) ∧ Q1 = Q.sTp []) ∨ (c = 1 ∧ (np 4 p ∨ ∃ n, n < 4 ∧ p = nI n ∧ np (visN (Q.G n) (Q.T n) + 1) x) ∧ Q1 = Q) ∨ (c = 2 ∧ (∃ n i, n < 4 ∧ p = nI n ∧ i ≤ visN (Q.G n) (Q.T n) ∧ x = nI i) ∧ syms Q.tp = none ∧ Q1 = Q.sTp [])) (hr : (th = 0 ∧ ∃ n i P, rfiA R p x n i ∧ syms R.Q.tp = some P ∧ fdV (txtG (R.Q.G n) (R.Q.T n)) P i v' ∧ R1 = rtE R) ∨ (th = 1 ∧ (np 4 p ∨ ∃ n, n < 4 ∧ p = nI n ∧ np (visN (R.Q.G n) (R.Q.T n) + 1) x) ∧ v' = 0 ∧ R1 = R) ∨ (th = 2 ∧ (∃ n i, rfiA R p x n i) ∧ syms R.Q.tp = none ∧ v' = 0 ∧ R1 = rtE R)) : th = c ∧ (c = 0 → v' = v) ∧ Rel Q1 R1 := by
  unfold rfiA inX at hr
  rw [hR.1, hR.2.1, hR.2.2.2.1] at hr
  have hT := hR.tp []
  have no : ∀ {n i}, n < 4 → p = nI n → i ≤ visN (Q.G n) (Q.T n) → x = nI i → (np 4 p ∨ ∃ n, n < 4 ∧ p = nI n ∧ np (visN (Q.G n) (Q.T n) + 1) x) → False := fun {n i} h1 h2 h3 h4 q => by
    rcases q with q | ⟨n', q1, q2, q3⟩
    · exact np_no q h1 h2
    · have := nI_ij h2 q2 (by omega) (by omega)
      subst this
      exact np_no q3 (by omega) h4
  rcases hc with ⟨rfl, n, i, sy, h1, h2, h3, h4, h5, h6, rfl⟩ | ⟨rfl, h1, rfl⟩ | ⟨rfl, ⟨n, i, h1, h2, h3, h4⟩, h5, rfl⟩ <;> rcases hr with ⟨rfl, n', i', P, ⟨g1, g2, g3, g4⟩, g5, g6, rfl⟩ | ⟨rfl, g1, g2, rfl⟩ | ⟨rfl, ⟨n', i', g1, g2, g3, g4⟩, g5, g6, rfl⟩
  · have := nI_ij h2 g2 (by omega) (by omega)
    subst this
    have b := (hB.1 n h1).2
    have := nI_ij h4 g4 (by omega) (by omega)
    subst this
    have e : (txtG (Q.G n) (Q.T n)).length = visN (Q.G n) (Q.T n) := List.length_map _
    exact ⟨rfl, fun _ => (find_eq g5 (by omega) g6).trans h6.symm, hT⟩
  · exact (no h1 h2 h3 h4 g1).elim
  · rw [h5] at g5; cases g5
  · exact (no g1 g2 g3 g4 h1).elim
  · exact ⟨rfl, fun q => (by cases q), hR⟩
  · exact (no g1 g2 g3 g4 h1).elim
  · rw [h5] at g5; cases g5
  · exact (no h1 h2 h3 h4 g1).elim
  · exact ⟨rfl, fun q => (by cases q), hT⟩
theorem ag_al (hB : BdQ Q) (hR : Rel Q R) (hc : (c = 0 ∧ ∃ i j b, i < 8 ∧ s = nI i ∧ j < (Q.sl i).length ∧ x = nI j ∧ b < 256 ∧ w = nI b ∧ v = nI ((Q.sl i).getD j 0) ∧ Q1 = (Q.sSl (upF Q.sl i ((Q.sl i).set j b))).sFo (if Q.fo = 1 ∨ (Q.sl i).getD j 0 ≠ b then 1 else 0)) ∨ (c = 1 ∧ (np 8 s ∨ np 256 w ∨ (∃ i, i < 8 ∧ s = nI i ∧ Q.sl i ≠ [] ∧ np (Q.sl i).length x)) ∧ Q1 = Q) ∨ (c = 2 ∧ (¬ np 256 w ∧ ∃ i, i < 8 ∧ s = nI i ∧ Q.sl i = []) ∧ Q1 = Q)) (hr : (th = 0 ∧ ∃ i j b, i < 8 ∧ s = nI i ∧ j < (R.Q.sl i).length ∧ x = nI j ∧ b < 256 ∧ w = nI b ∧ v' = nI ((R.Q.sl i).getD j 0) ∧ R1 = alD R i j b) ∨ (th = 1 ∧ (np 8 s ∨ np 256 w ∨ (∃ i, i < 8 ∧ s = nI i ∧ R.Q.sl i ≠ [] ∧ np (R.Q.sl i).length x)) ∧ v' = 0 ∧ R1 = R) ∨ (th = 2 ∧ (¬ np 256 w ∧ ∃ i, i < 8 ∧ s = nI i ∧ R.Q.sl i = []) ∧ v' = 0 ∧ R1 = R)) : th = c ∧ (c = 0 → v' = v) ∧ Rel Q1 R1 := by
  rw [hR.2.2.2.2.1] at hr
  have hb := hB.2.2.1
  have no1 : ∀ {i j b}, i < 8 → s = nI i → j < (Q.sl i).length → x = nI j → b < 256 → w = nI b → (np 8 s ∨ np 256 w ∨ (∃ i, i < 8 ∧ s = nI i ∧ Q.sl i ≠ [] ∧ np (Q.sl i).length x)) → False := fun {i j b} h1 h2 h3 h4 h5 h6 q => by
    rcases q with q | q | ⟨i', q1, q2, q3, q4⟩
    · exact np_no q h1 h2
    · exact np_no q h5 h6
    · have := nI_ij h2 q2 (by omega) (by omega)
      subst this
      exact np_no q4 h3 h4
  have no2 : ∀ {i j : Nat}, i < 8 → s = nI i → j < (Q.sl i).length → (∃ i, i < 8 ∧ s = nI i ∧ Q.sl i = []) → False := fun {i j} h1 h2 h3 ⟨i', q1, q2, q3⟩ => by
    have := nI_ij h2 q2 (by omega) (by omega)
    subst this
    rw [q3] at h3
    exact absurd h3 (Nat.not_lt_zero _)
  have no3 : (np 8 s ∨ np 256 w ∨ (∃ i, i < 8 ∧ s = nI i ∧ Q.sl i ≠ [] ∧ np (Q.sl i).length x)) → (¬ np 256 w ∧ ∃ i, i < 8 ∧ s = nI i ∧ Q.sl i = []) → False := fun q ⟨q1, i, q2, q3, q4⟩ => by
    rcases q with q | q | ⟨i', r1, r2, r3, r4⟩
    · exact np_no q q2 q3
    · exact q1 q
    · have := nI_ij q3 r2 (by omega) (by omega)
      subst this
      exact r3 q4
  rcases hc with ⟨rfl, i, j, b, h1, h2, h3, h4, h5, h6, h7, rfl⟩ | ⟨rfl, h1, rfl⟩ | ⟨rfl, h1, rfl⟩ <;> rcases hr with ⟨rfl, i', j', b', g1, g2, g3, g4, g5, g6, g7, rfl⟩ | ⟨rfl, g1, g2, rfl⟩ | ⟨rfl, g1, g2, rfl⟩
  · have := nI_ij h2 g2 (by omega) (by omega)
    subst this
    have := hb i h1
    have := nI_ij h4 g4 (by omega) (by omega)
    subst this
    have := nI_ij h6 g6 (by omega) (by omega)
    subst this
    exact ⟨rfl, fun _ => g7.trans h7.symm, hR.alt _ _ _⟩
  · exact (no1 h1 h2 h3 h4 h5 h6 g1).elim
  · exact (no2 h1 h2 h3 g1.2).elim
  · exact (no1 g1 g2 g3 g4 g5 g6 h1).elim
  · exact ⟨rfl, fun q => (by cases q), hR⟩
  · exact (no3 h1 g1).elim
  · exact (no2 g1 g2 g3 h1.2).elim
  · exact (no3 g1 h1).elim
  · exact ⟨rfl, fun q => (by cases q), hR⟩
/-- the marks: what the reference keeps is the count at the mark -/
def RelM (Q : Ab) (R : Rb) : Prop := ∀ i p, Q.mp i = some p → R.M i = (Q.G p).cnt (Q.ms i)
theorem ag_vi (hG : ∀ n, n < 4 → GT (Q.G n) (Q.T n)) (hR : Rel Q R) (hM : RelM Q R) (hp4 : ∀ i p, Q.mp i = some p → p < 4) (hc : (c = 0 ∧ ∃ i p, i < 8 ∧ b = nI i ∧ Q.mp i = some p ∧ v = nI (vwG (Q.G p) (Q.ms i) (Q.T p).od).length ∧ Q1 = Q.sVw (vwG (Q.G p) (Q.ms i) (Q.T p).od)) ∨ (c = 1 ∧ np 8 b ∧ Q1 = Q) ∨ (c = 2 ∧ (∃ i, i < 8 ∧ b = nI i ∧ Q.mp i = none) ∧ Q1 = Q)) (hr : (th = 0 ∧ ∃ i n, i < 8 ∧ b = nI i ∧ R.Q.mp i = some n ∧ v' = nI (vwR (R.Q.G n) (R.M i) (R.Q.T n).od).length ∧ R1 = R.sQ (R.Q.sVw (vwR (R.Q.G n) (R.M i) (R.Q.T n).od))) ∨ (th = 1 ∧ np 8 b ∧ v' = 0 ∧ R1 = R) ∨ (th = 2 ∧ (∃ i, i < 8 ∧ b = nI i ∧ R.Q.mp i = none) ∧ v' = 0 ∧ R1 = R)) : th = c ∧ (c = 0 → v' = v) ∧ Rel Q1 R1 := by
  rw [hR.1, hR.2.1, hR.2.2.2.2.2.2.2.1] at hr
  rcases hc with ⟨rfl, i, n, h1, h2, h3, h4, rfl⟩ | ⟨rfl, h1, rfl⟩ | ⟨rfl, ⟨i, h1, h2, h3⟩, rfl⟩ <;> rcases hr with ⟨rfl, i', n', g1, g2, g3, g4, rfl⟩ | ⟨rfl, g1, g2, rfl⟩ | ⟨rfl, ⟨i', g1, g2, g3⟩, g4, rfl⟩
  · have := nI_ij h2 g2 (by omega) (by omega)
    subst this
    rw [h3] at g3
    cases g3
    have e : vwR (Q.G n) (R.M i) (Q.T n).od = vwG (Q.G n) (Q.ms i) (Q.T n).od := by
      rw [hM i n h3]; exact vw_eq (hG n (hp4 i n h3)) _
    rw [e] at g4 ⊢
    exact ⟨rfl, fun _ => g4.trans h4.symm, hR.vw _⟩
  · exact (np_no g1 h1 h2).elim
  · have := nI_ij h2 g2 (by omega) (by omega)
    subst this
    rw [h3] at g3; cases g3
  · exact (np_no h1 g1 g2).elim
  · exact ⟨rfl, fun q => (by cases q), hR⟩
  · exact (np_no h1 g1 g2).elim
  · have := nI_ij h2 g2 (by omega) (by omega)
    subst this
    rw [h3] at g3; cases g3
  · exact (np_no g1 h1 h2).elim
  · exact ⟨rfl, fun q => (by cases q), hR⟩
end AGT
