/-! ===== What both sides stand for ===== -/
def Rel (Q : Ab) (R : Rb) : Prop := R.Q.G = Q.G ∧ R.Q.T = Q.T ∧ R.Q.Kn = Q.Kn ∧ R.Q.tp = Q.tp ∧ R.Q.sl = Q.sl ∧ R.Q.ft = Q.ft ∧ R.Q.fo = Q.fo ∧ R.Q.mp = Q.mp ∧ R.Q.vw = Q.vw ∧ R.Q.hu = Q.hu ∧ R.Q.ap = Q.ap ∧ R.Q.an = Q.an
section REL
variable {Q : Ab} {R : Rb}
theorem Rel.bd (h : Rel Q R) (hB : BdQ R.Q) : BdQ Q := by
  obtain ⟨h1, h2, h3, h4, h5, h6, h7, h8, h9, h10, h11, h12⟩ := h
  obtain ⟨b1, b2, b3, b4, b5⟩ := hB
  rw [h1, h2] at b1
  rw [h4] at b2
  rw [h5] at b3
  rw [h9] at b4
  rw [h10] at b5
  exact ⟨b1, b2, b3, b4, b5⟩
theorem Rel.tp (h : Rel Q R) (B : List Nat) : Rel (Q.sTp B) (R.sQ (R.Q.sTp B)) := by
  obtain ⟨h1, h2, h3, h4, h5, h6, h7, h8, h9, h10, h11, h12⟩ := h
  exact ⟨h1, h2, h3, rfl, h5, h6, h7, h8, h9, h10, h11, h12⟩
theorem Rel.ft (h : Rel Q R) (f : Nat) : Rel (Q.sFt f) (R.sQ (R.Q.sFt f)) := by
  obtain ⟨h1, h2, h3, h4, h5, h6, h7, h8, h9, h10, h11, h12⟩ := h
  exact ⟨h1, h2, h3, h4, h5, rfl, h7, h8, h9, h10, h11, h12⟩
theorem Rel.fo (h : Rel Q R) (f : Nat) : Rel (Q.sFo f) (R.sQ (R.Q.sFo f)) := by
  obtain ⟨h1, h2, h3, h4, h5, h6, h7, h8, h9, h10, h11, h12⟩ := h
  exact ⟨h1, h2, h3, h4, h5, h6, rfl, h8, h9, h10, h11, h12⟩
theorem Rel.slt (h : Rel Q R) (i : Nat) (B : List Nat) : Rel (Q.sSl (upF Q.sl i B)) (kpR R i B) := by
  obtain ⟨h1, h2, h3, h4, h5, h6, h7, h8, h9, h10, h11, h12⟩ := h
  refine ⟨h1, h2, h3, h4, ?_, h6, h7, h8, h9, h10, h11, h12⟩
  show upF R.Q.sl i B = upF Q.sl i B
  rw [h5]
theorem Rel.vw (h : Rel Q R) (v : List Int32) : Rel (Q.sVw v) (R.sQ (R.Q.sVw v)) := by
  obtain ⟨h1, h2, h3, h4, h5, h6, h7, h8, h9, h10, h11, h12⟩ := h
  exact ⟨h1, h2, h3, h4, h5, h6, h7, h8, rfl, h10, h11, h12⟩
theorem Rel.hu (h : Rel Q R) (v : List (Nat × Nat × Nat × Nat)) : Rel (Q.sHu v) (R.sQ (R.Q.sHu v)) := by
  obtain ⟨h1, h2, h3, h4, h5, h6, h7, h8, h9, h10, h11, h12⟩ := h
  exact ⟨h1, h2, h3, h4, h5, h6, h7, h8, h9, rfl, h11, h12⟩
theorem Rel.an (h : Rel Q R) (i : Nat) (o o' : Option Nat) : Rel (Q.sAn (upF Q.ap i o) (upF Q.an i o')) (R.sQ (R.Q.sAn (upF R.Q.ap i o) (upF R.Q.an i o'))) := by
  obtain ⟨h1, h2, h3, h4, h5, h6, h7, h8, h9, h10, h11, h12⟩ := h
  refine ⟨h1, h2, h3, h4, h5, h6, h7, h8, h9, h10, ?_, ?_⟩
  · show upF R.Q.ap i o = upF Q.ap i o
    rw [h11]
  · show upF R.Q.an i o' = upF Q.an i o'
    rw [h12]
theorem Rel.mk (h : Rel Q R) (i n : Nat) (ms : Nat → Nat) : Rel (Q.sMk (upF Q.mp i (some n)) ms) (mkR R i n) := by
  obtain ⟨h1, h2, h3, h4, h5, h6, h7, h8, h9, h10, h11, h12⟩ := h
  refine ⟨h1, h2, h3, h4, h5, h6, h7, ?_, h9, h10, h11, h12⟩
  show upF R.Q.mp i (some n) = upF Q.mp i (some n)
  rw [h8]
theorem Rel.alt (h : Rel Q R) (i j b : Nat) : Rel ((Q.sSl (upF Q.sl i ((Q.sl i).set j b))).sFo (if Q.fo = 1 ∨ (Q.sl i).getD j 0 ≠ b then 1 else 0)) (alD R i j b) := by
  obtain ⟨h1, h2, h3, h4, h5, h6, h7, h8, h9, h10, h11, h12⟩ := h
  refine ⟨h1, h2, h3, h4, ?_, h6, ?_, h8, h9, h10, h11, h12⟩
  · show upF R.Q.sl i ((R.Q.sl i).set j b) = upF Q.sl i ((Q.sl i).set j b)
    rw [h5]
  · show (if R.Q.fo = 1 ∨ (R.Q.sl i).getD j 0 ≠ b then 1 else 0) = (if Q.fo = 1 ∨ (Q.sl i).getD j 0 ≠ b then 1 else 0)
    rw [h5, h7]
theorem Rel.pe (h : Rel Q R) (n : Nat) (G : Gr) (T : Tr) (E : List (Nat × Nat)) (C : List (Bool × Nat × Nat)) : Rel (Q.sPe n G T E) (R.sP n G T (R.Q.Kn n) C) := by
  obtain ⟨h1, h2, h3, h4, h5, h6, h7, h8, h9, h10, h11, h12⟩ := h
  refine ⟨?_, ?_, ?_, h4, h5, h6, h7, h8, h9, h10, h11, h12⟩
  · show upF R.Q.G n G = upF Q.G n G
    rw [h1]
  · show upF R.Q.T n T = upF Q.T n T
    rw [h2]
  · show upF R.Q.Kn n (R.Q.Kn n) = Q.Kn
    rw [upF_id, h3]
theorem Rel.kn (h : Rel Q R) (n : Nat) (Kn : Nat → Nat → Nat) : Rel (Q.sKn n Kn) (R.sP n (R.Q.G n) (R.Q.T n) Kn (R.C n)) := by
  obtain ⟨h1, h2, h3, h4, h5, h6, h7, h8, h9, h10, h11, h12⟩ := h
  refine ⟨?_, ?_, ?_, h4, h5, h6, h7, h8, h9, h10, h11, h12⟩
  · show upF R.Q.G n (R.Q.G n) = Q.G
    rw [upF_id, h1]
  · show upF R.Q.T n (R.Q.T n) = Q.T
    rw [upF_id, h2]
  · show upF R.Q.Kn n Kn = upF Q.Kn n Kn
    rw [h3]
theorem feed_eq {B : List Nat} {a b c d e : Int32} (h : B.length + 20 ≤ 32768) : bPuts B (feedB a b c d e) = B ++ vB (feedB a b c d e) := bPuts_fit (by
  have : (feedB a b c d e).length = 20 := rfl
  omega)
end REL
section AGS
variable {Q Q1 : Ab} {R R1 : Rb} {p x y s a b w v v' : Int32} {c th : Nat}
theorem ag_en (hB : BdQ Q) (hR : Rel Q R) (hc : (c = 0 ∧ ∃ n, n ≤ Q.tp.length ∧ x = nI n ∧ v = nI (Q.tp.length - n) ∧ Q1 = Q.sTp (Q.tp.take n)) ∨ (c = 1 ∧ np (Q.tp.length + 1) x ∧ Q1 = Q)) (hr : (th = 0 ∧ ∃ j, j ≤ R.Q.tp.length ∧ x = nI j ∧ v' = nI (R.Q.tp.length - j) ∧ R1 = R.sQ (R.Q.sTp (R.Q.tp.take j))) ∨ (th = 1 ∧ np (R.Q.tp.length + 1) x ∧ v' = 0 ∧ R1 = R)) : th = c ∧ (c = 0 → v' = v) ∧ Rel Q1 R1 := by
  have et : R.Q.tp = Q.tp := hR.2.2.2.1
  have b := hB.2.1
  rw [et] at hr
  rcases hc with ⟨rfl, n, h1, h2, h3, rfl⟩ | ⟨rfl, h1, rfl⟩ <;> rcases hr with ⟨rfl, j, g1, g2, g3, rfl⟩ | ⟨rfl, g1, g2, rfl⟩
  · have := nI_ij h2 g2 (by omega) (by omega)
    subst this
    exact ⟨rfl, fun _ => g3.trans h3.symm, hR.tp _⟩
  · exact (np_no g1 (by omega) h2).elim
  · exact (np_no h1 (by omega) g2).elim
  · exact ⟨rfl, fun q => (by cases q), hR⟩
theorem ag_fd {d e : Int32} (hR : Rel Q R) (hc : (c = 0 ∧ Q.tp.length + 20 ≤ 32768 ∧ Q1 = Q.sTp (bPuts Q.tp (feedB a b w d e))) ∨ (c = 1 ∧ 32768 < Q.tp.length + 20 ∧ Q1 = Q)) (hr : (th = 0 ∧ R.Q.tp.length + 20 ≤ 32768 ∧ R1 = fdR R a b w d e) ∨ (th = 1 ∧ 32768 < R.Q.tp.length + 20 ∧ R1 = R)) : th = c ∧ Rel Q1 R1 := by
  have et : R.Q.tp = Q.tp := hR.2.2.2.1
  rw [et] at hr
  rcases hc with ⟨rfl, h1, rfl⟩ | ⟨rfl, h1, rfl⟩ <;> rcases hr with ⟨rfl, g1, rfl⟩ | ⟨rfl, g1, rfl⟩
  · refine ⟨rfl, ?_⟩
    rw [feed_eq h1]
    have := hR.tp (Q.tp ++ vB (feedB a b w d e))
    unfold fdR
    rw [et]
    exact this
  · omega
  · omega
  · exact ⟨rfl, hR⟩
theorem ag_mk (hR : Rel Q R) (hc : (c = 0 ∧ ∃ i n, i < 8 ∧ b = nI i ∧ n < 4 ∧ p = nI n ∧ v = nI (Q.G n).n ∧ Q1 = Q.sMk (upF Q.mp i (some n)) (upF Q.ms i (Q.G n).n)) ∨ (c = 1 ∧ (np 8 b ∨ np 4 p) ∧ Q1 = Q)) (hr : (th = 0 ∧ ∃ i n, i < 8 ∧ b = nI i ∧ n < 4 ∧ p = nI n ∧ v' = nI (R.Q.G n).n ∧ R1 = mkR R i n) ∨ (th = 1 ∧ (np 8 b ∨ np 4 p) ∧ v' = 0 ∧ R1 = R)) : th = c ∧ (c = 0 → v' = v) ∧ Rel Q1 R1 := by
  have eG : R.Q.G = Q.G := hR.1
  rw [eG] at hr
  rcases hc with ⟨rfl, i, n, h1, h2, h3, h4, h5, rfl⟩ | ⟨rfl, h1, rfl⟩ <;> rcases hr with ⟨rfl, i', n', g1, g2, g3, g4, g5, rfl⟩ | ⟨rfl, g1, g2, rfl⟩
  · have := nI_ij h2 g2 (by omega) (by omega)
    subst this
    have := nI_ij h4 g4 (by omega) (by omega)
    subst this
    exact ⟨rfl, fun _ => g5.trans h5.symm, hR.mk _ _ _⟩
  · rcases g1 with g1 | g1
    · exact (np_no g1 h1 h2).elim
    · exact (np_no g1 h3 h4).elim
  · rcases h1 with h1 | h1
    · exact (np_no h1 g1 g2).elim
    · exact (np_no h1 g3 g4).elim
  · exact ⟨rfl, fun q => (by cases q), hR⟩
theorem ag_ac (hB : BdQ Q) (hR : Rel Q R) (hc : (c = 0 ∧ ∃ n i, n < 4 ∧ p = nI n ∧ i < 8 ∧ s = nI i ∧ v = nI (bPuts [] (sumA (Q.G n) n)).length ∧ Q1 = Q.sSl (upF Q.sl i (bPuts [] (sumA (Q.G n) n)))) ∨ (c = 1 ∧ (np 4 p ∨ np 8 s) ∧ Q1 = Q)) (hr : (th = 0 ∧ ∃ n i, n < 4 ∧ p = nI n ∧ i < 8 ∧ s = nI i ∧ v' = nI (rsmW R n).length ∧ R1 = kpR R i (rsmW R n)) ∨ (th = 1 ∧ (np 4 p ∨ np 8 s) ∧ v' = 0 ∧ R1 = R)) : th = c ∧ (c = 0 → v' = v) ∧ Rel Q1 R1 := by
  have eG : R.Q.G = Q.G := hR.1
  rcases hc with ⟨rfl, n, i, h1, h2, h3, h4, h5, rfl⟩ | ⟨rfl, h1, rfl⟩ <;> rcases hr with ⟨rfl, n', i', g1, g2, g3, g4, g5, rfl⟩ | ⟨rfl, g1, g2, rfl⟩
  · have := nI_ij h2 g2 (by omega) (by omega)
    subst this
    have := nI_ij h4 g4 (by omega) (by omega)
    subst this
    have e : rsmW R n = bPuts [] (sumA (Q.G n) n) := by
      rw [sum_eq (hB.1 n h1).1 h1]
      unfold rsmW
      rw [eG]
    rw [e] at g5 ⊢
    exact ⟨rfl, fun _ => g5.trans h5.symm, hR.slt _ _⟩
  · rcases g1 with g1 | g1
    · exact (np_no g1 h1 h2).elim
    · exact (np_no g1 h3 h4).elim
  · rcases h1 with h1 | h1
    · exact (np_no h1 g1 g2).elim
    · exact (np_no h1 g3 g4).elim
  · exact ⟨rfl, fun q => (by cases q), hR⟩
end AGS
