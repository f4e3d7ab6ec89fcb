/-! ===== Both sides agree: anchor, send, delete ===== -/
section AGU
variable {Q Q1 : Ab} {R R1 : Rb} {p x y s a b w v v' : Int32} {c th : Nat}
theorem TxN.ex {G : Gr} {T : Tr} {j : Nat} (h : j = visN G T) {k : Nat} (hk : TxN G T j k) : False := by
  have := hk.lt
  omega
theorem ag_an (hB : BdQ Q) (hR : Rel Q R) (hc : (c = 0 ∧ ∃ i n j, i < 8 ∧ a = nI i ∧ n < 4 ∧ p = nI n ∧ x = nI j ∧ ((j = visN (Q.G n) (Q.T n) ∧ Q1 = Q.sAn (upF Q.ap i (some n)) (upF Q.an i none)) ∨ ∃ k, TxN (Q.G n) (Q.T n) j k ∧ Q1 = Q.sAn (upF Q.ap i (some n)) (upF Q.an i (some k)))) ∨ (c = 1 ∧ (np 8 a ∨ np 4 p ∨ ∃ n, n < 4 ∧ p = nI n ∧ np (visN (Q.G n) (Q.T n) + 1) x) ∧ Q1 = Q)) (hr : (th = 0 ∧ ∃ i n j, i < 8 ∧ a = nI i ∧ n < 4 ∧ p = nI n ∧ x = nI j ∧ ((j = visN (R.Q.G n) (R.Q.T n) ∧ R1 = R.sQ (R.Q.sAn (upF R.Q.ap i (some n)) (upF R.Q.an i none))) ∨ ∃ k, TxN (R.Q.G n) (R.Q.T n) j k ∧ R1 = R.sQ (R.Q.sAn (upF R.Q.ap i (some n)) (upF R.Q.an i (some k))))) ∨ (th = 1 ∧ (np 8 a ∨ np 4 p ∨ ∃ n, n < 4 ∧ p = nI n ∧ np (visN (R.Q.G n) (R.Q.T n) + 1) x) ∧ R1 = R)) : th = c ∧ Rel Q1 R1 := by
  rw [hR.1, hR.2.1] at hr
  have jle : ∀ {n j : Nat} {P1 P2 : Prop} {P3 : Nat → Prop}, ((j = visN (Q.G n) (Q.T n) ∧ P1) ∨ ∃ k, TxN (Q.G n) (Q.T n) j k ∧ P3 k) → j ≤ visN (Q.G n) (Q.T n) := fun {n j P1 P2 P3} q => by
    rcases q with ⟨q, -⟩ | ⟨k, q, -⟩
    · omega
    · have := q.lt; omega
  have no : ∀ {i n j : Nat}, i < 8 → a = nI i → n < 4 → p = nI n → x = nI j → j ≤ visN (Q.G n) (Q.T n) → (np 8 a ∨ np 4 p ∨ ∃ n, n < 4 ∧ p = nI n ∧ np (visN (Q.G n) (Q.T n) + 1) x) → False := fun {i n j} h1 h2 h3 h4 h5 h6 q => by
    rcases q with q | q | ⟨n', q1, q2, q3⟩
    · exact np_no q h1 h2
    · exact np_no q h3 h4
    · have := nI_ij h4 q2 (by omega) (by omega)
      subst this
      exact np_no q3 (by omega) h5
  rcases hc with ⟨rfl, i, n, j, h1, h2, h3, h4, h5, h6⟩ | ⟨rfl, h1, rfl⟩ <;> rcases hr with ⟨rfl, i', n', j', g1, g2, g3, g4, g5, g6⟩ | ⟨rfl, g1, rfl⟩
  · have := nI_ij h2 g2 (by omega) (by omega)
    subst this
    have := nI_ij h4 g4 (by omega) (by omega)
    subst this
    have b := (hB.1 n h3).2
    have l1 := jle (P2 := True) h6
    have l2 := jle (P2 := True) g6
    have := nI_ij h5 g5 (by omega) (by omega)
    subst this
    refine ⟨rfl, ?_⟩
    rcases h6 with ⟨q1, rfl⟩ | ⟨k, q1, rfl⟩ <;> rcases g6 with ⟨r1, rfl⟩ | ⟨k', r1, rfl⟩
    · exact hR.an _ _ _
    · exact (TxN.ex q1 r1).elim
    · exact (TxN.ex r1 q1).elim
    · have := q1.uq r1
      subst this
      exact hR.an _ _ _
  · exact (no h1 h2 h3 h4 h5 (jle (P2 := True) h6) g1).elim
  · exact (no g1 g2 g3 g4 g5 (jle (P2 := True) g6) h1).elim
  · exact ⟨rfl, hR⟩
theorem dl_no (hB : BdQ Q) {n i m : Nat} (hn : n < 4) (hp : p = nI n) (h : dlOk Q n x y i m) (q : np 4 p ∨ ∃ n, n < 4 ∧ p = nI n ∧ ¬ ∃ i m, dlOk Q n x y i m) : False := by
  rcases q with q | ⟨n', q1, q2, q3⟩
  · exact np_no q hn hp
  · have := nI_ij hp q2 (by omega) (by omega)
    subst this
    exact q3 ⟨i, m, h⟩
theorem dl_uq (hB : BdQ Q) {n i m i' m' : Nat} (hn : n < 4) (h : dlOk Q n x y i m) (h' : dlOk Q n x y i' m') : i = i' ∧ m = m' := by
  obtain ⟨h1, h2, h3, h4⟩ := h
  obtain ⟨g1, g2, g3, g4⟩ := h'
  have b := (hB.1 n hn).2
  exact ⟨nI_ij h3 g3 (by omega) (by omega), nI_ij h4 g4 (by omega) (by omega)⟩
/-- delete: both runs are one; the value is what is left -/
theorem ag_de {n i m n' i' m' : Nat} {G1 G2 : Gr} {T1 T2 : Tr} (hB : BdQ Q) (hn : n < 4) (hp : p = nI n) (hd : dlOk Q n x y i m) (hrun : Run n (owN (Q.G n) n) (List.replicate m (none, i)) (Q.G n) (Q.T n) G1 T1) (hn' : n' < 4) (hp' : p = nI n') (hd' : dlOk Q n' x y i' m') (hrun' : Run n' (owN (Q.G n') n') (List.replicate m' (none, i')) (Q.G n') (Q.T n') G2 T2) : n = n' ∧ i = i' ∧ m = m' ∧ G1 = G2 ∧ T1 = T2 := by
  have := nI_ij hp hp' (by omega) (by omega)
  subst this
  obtain ⟨rfl, rfl⟩ := dl_uq hB hn hd hd'
  obtain ⟨rfl, rfl⟩ := hrun.uq hrun'
  exact ⟨rfl, rfl, rfl, rfl, rfl⟩
/-- send: the same message, too long alike -/
theorem ag_sd {n : Nat} {o : Option Nat} (hR : Rel Q R) (hn : n < 4) : (paT (Q.G n) (Q.Kn n) o ≤ 32768 ↔ (rmB (wpF R n o) n 5).length + 4 ≤ 32768) ∧ (paT (Q.G n) (Q.Kn n) o ≤ 32768 → bPuts [] (coA (paF (Q.G n) (Q.Kn n) o) (nI n)) = rmA (wpF R n o) n) := by
  have e : wpF R n o = paF (Q.G n) (Q.Kn n) o := by
    unfold wpF
    rw [hR.1, hR.2.2.1]
    rfl
  rw [e]
  have hi : paT (Q.G n) (Q.Kn n) o ≤ 32768 ↔ (rmB (paF (Q.G n) (Q.Kn n) o) n 5).length + 4 ≤ 32768 := pa_iff _ _
  exact ⟨hi, fun h => co_eq hn (pa_fit (hi.1 h)) (hi.1 h)⟩
end AGU
