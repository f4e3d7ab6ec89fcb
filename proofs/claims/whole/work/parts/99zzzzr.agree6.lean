/-! ===== Both sides agree: related, octet, line; what they stand for ===== -/
section AG
variable {Q : Ab} {p x y s a b w v v' : Int32} {c th : Nat}
theorem lk2_b {G : Gr} (hG : G.ok) {a1 e : Nat} (h : lk2 G a1 x e) : ∃ j, x = nI j ∧ (agE G a1)[j]? = some e ∧ j < (agE G a1).length ∧ j < 8193 := by
  obtain ⟨j, h1, h2⟩ := h
  have h3 := (List.getElem?_eq_some_iff.1 h2).1
  have := agE_8192 hG a1
  exact ⟨j, h1, h2, h3, by omega⟩
theorem lk2_uq {G : Gr} (hG : G.ok) {a1 e f : Nat} (h : lk2 G a1 x e) (h' : lk2 G a1 x f) : e = f := by
  obtain ⟨j, h1, h2, h3, h4⟩ := lk2_b hG h
  obtain ⟨j', g1, g2, g3, g4⟩ := lk2_b hG h'
  have := nI_ij h1 g1 (by omega) (by omega)
  subst this
  rw [h2] at g2
  cases g2
  rfl
theorem lk2_no {G : Gr} (hG : G.ok) {a1 e : Nat} (h : lk2 G a1 x e) (h' : lk0 G a1 x) : False := by
  obtain ⟨j, h1, h2, h3, h4⟩ := lk2_b hG h
  exact np_no h' h3 h1
theorem ag_rl (hB : BdQ Q) (hc : (c = 0 ∧ ∃ n a1 b1 e f, n < 4 ∧ p = nI n ∧ a1 < 256 ∧ a = nI a1 ∧ b1 < 256 ∧ b = nI b1 ∧ lk2 (Q.G n) a1 x e ∧ lk2 (Q.G n) b1 y f ∧ v = rlA (Q.G n) e f) ∨ (c = 1 ∧ (np 4 p ∨ np 256 a ∨ np 256 b)) ∨ (c = 2 ∧ ∃ n a1 b1, n < 4 ∧ p = nI n ∧ a1 < 256 ∧ a = nI a1 ∧ b1 < 256 ∧ b = nI b1 ∧ (lk0 (Q.G n) a1 x ∨ lk0 (Q.G n) b1 y))) (hr : (th = 0 ∧ ∃ n a1 b1 e f, n < 4 ∧ p = nI n ∧ a1 < 256 ∧ a = nI a1 ∧ b1 < 256 ∧ b = nI b1 ∧ lk2 (Q.G n) a1 x e ∧ lk2 (Q.G n) b1 y f ∧ v' = rlA (Q.G n) e f) ∨ (th = 1 ∧ (np 4 p ∨ np 256 a ∨ np 256 b) ∧ v' = 0) ∨ (th = 2 ∧ (∃ n a1 b1, n < 4 ∧ p = nI n ∧ a1 < 256 ∧ a = nI a1 ∧ b1 < 256 ∧ b = nI b1 ∧ (lk0 (Q.G n) a1 x ∨ lk0 (Q.G n) b1 y)) ∧ v' = 0)) : th = c ∧ (c = 0 → v' = v) := by
  have no : ∀ {n a1 b1}, n < 4 → p = nI n → a1 < 256 → a = nI a1 → b1 < 256 → b = nI b1 → (np 4 p ∨ np 256 a ∨ np 256 b) → False := fun {n a1 b1} h1 h2 h3 h4 h5 h6 q => by
    rcases q with q | q | q
    · exact np_no q h1 h2
    · exact np_no q h3 h4
    · exact np_no q h5 h6
  rcases hc with ⟨rfl, n, a1, b1, e, f, h1, h2, h3, h4, h5, h6, h7, h8, h9⟩ | ⟨rfl, h1⟩ | ⟨rfl, n, a1, b1, h1, h2, h3, h4, h5, h6, h7⟩ <;> rcases hr with ⟨rfl, n', a1', b1', e', f', g1, g2, g3, g4, g5, g6, g7, g8, g9⟩ | ⟨rfl, g1, g2⟩ | ⟨rfl, ⟨n', a1', b1', g1, g2, g3, g4, g5, g6, g7⟩, g8⟩
  · have := nI_ij h2 g2 (by omega) (by omega)
    subst this
    have := nI_ij h4 g4 (by omega) (by omega)
    subst this
    have := nI_ij h6 g6 (by omega) (by omega)
    subst this
    have := lk2_uq (hB.1 n h1).1 h7 g7
    subst this
    have := lk2_uq (hB.1 n h1).1 h8 g8
    subst this
    exact ⟨rfl, fun _ => g9.trans h9.symm⟩
  · exact (no h1 h2 h3 h4 h5 h6 g1).elim
  · have := nI_ij h2 g2 (by omega) (by omega)
    subst this
    have := nI_ij h4 g4 (by omega) (by omega)
    subst this
    have := nI_ij h6 g6 (by omega) (by omega)
    subst this
    rcases g7 with g7 | g7
    · exact (lk2_no (hB.1 n h1).1 h7 g7).elim
    · exact (lk2_no (hB.1 n h1).1 h8 g7).elim
  · exact (no g1 g2 g3 g4 g5 g6 h1).elim
  · exact ⟨rfl, fun q => by cases q⟩
  · exact (no g1 g2 g3 g4 g5 g6 h1).elim
  · have := nI_ij h2 g2 (by omega) (by omega)
    subst this
    have := nI_ij h4 g4 (by omega) (by omega)
    subst this
    have := nI_ij h6 g6 (by omega) (by omega)
    subst this
    rcases h7 with h7 | h7
    · exact (lk2_no (hB.1 n h1).1 g7 h7).elim
    · exact (lk2_no (hB.1 n h1).1 g8 h7).elim
  · exact (no h1 h2 h3 h4 h5 h6 g1).elim
  · exact ⟨rfl, fun q => by cases q⟩
theorem oc_uq {B : List Nat} (hl : B.length ≤ 32768) (h : (x = -1 ∧ v = nI B.length) ∨ ∃ j, j < B.length ∧ x = nI j ∧ v = nI (B.getD j 0)) (h' : (x = -1 ∧ v' = nI B.length) ∨ ∃ j, j < B.length ∧ x = nI j ∧ v' = nI (B.getD j 0)) : v' = v := by
  have m1 : ∀ j, j < B.length → x = nI j → x ≠ -1 := fun j hj e q => by
    have : ¬ (nI j < 0) := nI_pos (by omega)
    rw [← e, q] at this
    exact this (by decide)
  rcases h with ⟨h1, h2⟩ | ⟨j, h1, h2, h3⟩ <;> rcases h' with ⟨g1, g2⟩ | ⟨j', g1, g2, g3⟩
  · exact g2.trans h2.symm
  · exact absurd h1 (m1 j' g1 g2)
  · exact absurd g1 (m1 j h1 h2)
  · have := nI_ij h2 g2 (by omega) (by omega)
    subst this
    exact g3.trans h3.symm
theorem oc_in {B : List Nat} (hl : B.length ≤ 32768) (h : (x = -1 ∧ v = nI B.length) ∨ ∃ j, j < B.length ∧ x = nI j ∧ v = nI (B.getD j 0)) : ¬ x < -1 ∧ ¬ nI B.length ≤ x := by
  rcases h with ⟨h1, h2⟩ | ⟨j, h1, h2, h3⟩
  · subst h1
    refine ⟨by decide, fun q => ?_⟩
    have : ¬ (nI B.length < 0) := nI_pos (by omega)
    exact this (Int32.lt_of_le_of_lt q (by decide))
  · subst h2
    refine ⟨fun q => ?_, fun q => ?_⟩
    · have : ¬ (nI j < 0) := nI_pos (by omega)
      exact this (Int32.lt_trans q (by decide))
    · have := (nI_leI (by omega) (by omega)).1 q
      omega
theorem ag_oc (hB : BdQ Q) (hc : (c = 0 ∧ ∃ i, i < 8 ∧ s = nI i ∧ Q.sl i ≠ [] ∧ ((x = -1 ∧ v = nI (Q.sl i).length) ∨ ∃ j, j < (Q.sl i).length ∧ x = nI j ∧ v = nI ((Q.sl i).getD j 0))) ∨ (c = 1 ∧ (x < -1 ∨ np 8 s ∨ ∃ i, i < 8 ∧ s = nI i ∧ Q.sl i ≠ [] ∧ nI (Q.sl i).length ≤ x)) ∨ (c = 2 ∧ ¬ x < -1 ∧ ∃ i, i < 8 ∧ s = nI i ∧ Q.sl i = [])) (hr : (th = 0 ∧ ∃ i, i < 8 ∧ s = nI i ∧ ocP (Q.sl i) x v') ∨ (th = 1 ∧ (np 8 s ∨ x < -1 ∨ (∃ i, i < 8 ∧ s = nI i ∧ Q.sl i ≠ [] ∧ nI (Q.sl i).length ≤ x)) ∧ v' = 0) ∨ (th = 2 ∧ (∃ i, i < 8 ∧ s = nI i ∧ Q.sl i = [] ∧ ¬ x < -1) ∧ v' = 0)) : th = c ∧ (c = 0 → v' = v) := by
  have hb := hB.2.2.1
  rcases hc with ⟨rfl, i, h1, h2, h3, h4⟩ | ⟨rfl, h1⟩ | ⟨rfl, h0, i, h1, h2, h3⟩ <;> rcases hr with ⟨rfl, i', g1, g2, g3, g4⟩ | ⟨rfl, g1, g2⟩ | ⟨rfl, ⟨i', g1, g2, g3, g4⟩, g5⟩
  · have := nI_ij h2 g2 (by omega) (by omega)
    subst this
    exact ⟨rfl, fun _ => oc_uq (hb i h1) h4 g4⟩
  · obtain ⟨o1, o2⟩ := oc_in (hb i h1) h4
    rcases g1 with g1 | g1 | ⟨i', q1, q2, q3, q4⟩
    · exact (np_no g1 h1 h2).elim
    · exact absurd g1 o1
    · have := nI_ij h2 q2 (by omega) (by omega)
      subst this
      exact absurd q4 o2
  · have := nI_ij h2 g2 (by omega) (by omega)
    subst this
    exact absurd g3 h3
  · obtain ⟨o1, o2⟩ := oc_in (hb i' g1) g4
    rcases h1 with h1 | h1 | ⟨i, q1, q2, q3, q4⟩
    · exact absurd h1 o1
    · exact (np_no h1 g1 g2).elim
    · have := nI_ij q2 g2 (by omega) (by omega)
      subst this
      exact absurd q4 o2
  · exact ⟨rfl, fun q => by cases q⟩
  · rcases h1 with h1 | h1 | ⟨i, q1, q2, q3, q4⟩
    · exact absurd h1 g4
    · exact (np_no h1 g1 g2).elim
    · have := nI_ij q2 g2 (by omega) (by omega)
      subst this
      exact absurd g3 q3
  · have := nI_ij h2 g2 (by omega) (by omega)
    subst this
    exact absurd h3 g3
  · rcases g1 with g1 | g1 | ⟨i', q1, q2, q3, q4⟩
    · exact (np_no g1 h1 h2).elim
    · exact absurd g1 h0
    · have := nI_ij h2 q2 (by omega) (by omega)
      subst this
      exact absurd h3 q3
  · exact ⟨rfl, fun q => by cases q⟩
theorem lnF_m {x : Int32} : ∀ (T : List Int32) (l i : Nat), i + T.length < 2147483648 → lnF x T l i < 0 → lnF x T l i = -1 := by
  intro T
  induction T with
  | nil =>
    intro l i hi h
    rw [lnF] at h ⊢
    split at h
    · next q => exact absurd h (nI_pos (by simpa using hi))
    · next q => rw [if_neg q]
  | cons d T ih =>
    intro l i hi h
    rw [List.length_cons] at hi
    rw [lnF] at h ⊢
    by_cases q : nI l < x
    · rw [if_pos q] at h ⊢
      exact ih _ _ (by omega) h
    · rw [if_neg q] at h ⊢
      by_cases q2 : nI l = x
      · rw [if_pos q2] at h
        exact absurd h (nI_pos (by omega))
      · rw [if_neg q2]
theorem ag_li (hB : BdQ Q) (hc : (c = 0 ∧ ∃ n, n < 4 ∧ p = nI n ∧ ((x = -1 ∧ v = nI (1 + lnC (txtG (Q.G n) (Q.T n)))) ∨ (x ≠ -1 ∧ v = lnF x (txtG (Q.G n) (Q.T n)) 0 0 ∧ v ≠ -1))) ∨ (c = 1 ∧ np 4 p) ∨ (c = 2 ∧ ∃ n, n < 4 ∧ p = nI n ∧ x ≠ -1 ∧ lnF x (txtG (Q.G n) (Q.T n)) 0 0 = -1)) (hr : (th = 0 ∧ ∃ n, n < 4 ∧ p = nI n ∧ ((x = -1 ∧ v' = nI (lnR x (txtG (Q.G n) (Q.T n)) 1 0 (if x = 0 then 0 else -1)).1) ∨ (x ≠ -1 ∧ v' = (lnR x (txtG (Q.G n) (Q.T n)) 1 0 (if x = 0 then 0 else -1)).2.2 ∧ ¬ v' < 0))) ∨ (th = 1 ∧ np 4 p ∧ v' = 0) ∨ (th = 2 ∧ (∃ n, n < 4 ∧ p = nI n ∧ x ≠ -1 ∧ (lnR x (txtG (Q.G n) (Q.T n)) 1 0 (if x = 0 then 0 else -1)).2.2 < 0) ∧ v' = 0)) : th = c ∧ (c = 0 → v' = v) := by
  have tl : ∀ n, n < 4 → (txtG (Q.G n) (Q.T n)).length ≤ 8192 := fun n hn => by
    have := (hB.1 n hn).2
    have e : (txtG (Q.G n) (Q.T n)).length = visN (Q.G n) (Q.T n) := List.length_map _
    omega
  have eq : ∀ n, n < 4 → (lnR x (txtG (Q.G n) (Q.T n)) 1 0 (if x = 0 then 0 else -1)).2.2 = lnF x (txtG (Q.G n) (Q.T n)) 0 0 := fun n hn => lnR_eq (by have := tl n hn; omega)
  rcases hc with ⟨rfl, n, h1, h2, h3⟩ | ⟨rfl, h1⟩ | ⟨rfl, n, h1, h2, h3, h4⟩ <;> rcases hr with ⟨rfl, n', g1, g2, g3⟩ | ⟨rfl, g1, g2⟩ | ⟨rfl, ⟨n', g1, g2, g3, g4⟩, g5⟩
  · have := nI_ij h2 g2 (by omega) (by omega)
    subst this
    refine ⟨rfl, fun _ => ?_⟩
    rcases h3 with ⟨q1, q2⟩ | ⟨q1, q2, q3⟩ <;> rcases g3 with ⟨r1, r2⟩ | ⟨r1, r2, r3⟩
    · rw [r2, q2, lnR_1]
    · exact absurd q1 r1
    · exact absurd r1 q1
    · rw [r2, q2, eq n h1]
  · exact (np_no g1 h1 h2).elim
  · have := nI_ij h2 g2 (by omega) (by omega)
    subst this
    rcases h3 with ⟨q1, q2⟩ | ⟨q1, q2, q3⟩
    · exact absurd q1 g3
    · rw [eq n h1] at g4
      exact absurd (q2.trans (lnF_m _ _ _ (by have := tl n h1; omega) g4)) q3
  · exact (np_no h1 g1 g2).elim
  · exact ⟨rfl, fun q => by cases q⟩
  · exact (np_no h1 g1 g2).elim
  · have := nI_ij h2 g2 (by omega) (by omega)
    subst this
    rcases g3 with ⟨r1, r2⟩ | ⟨r1, r2, r3⟩
    · exact absurd r1 h3
    · rw [eq n h1, h4] at r2
      rw [r2] at r3
      exact absurd (by decide) r3
  · exact (np_no g1 h1 h2).elim
  · exact ⟨rfl, fun q => by cases q⟩
end AG
