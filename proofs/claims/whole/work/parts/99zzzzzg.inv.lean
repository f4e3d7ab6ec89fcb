/-! ===== What holds between the calls ===== -/
def LIv (Q : Ab) (R : Rb) : Prop := Rel Q R ∧ RelM Q R ∧ (∀ i p, Q.mp i = some p → p < 4 ∧ Q.ms i ≤ (Q.G p).n) ∧ (∀ n, n < 4 → GT (Q.G n) (Q.T n) ∧ (Q.G n).AG3 ∧ CaL (Q.G n) (Q.T n) n (Q.E n) (R.C n)) ∧ (Q.fo = 0 → KiG Q.G ∧ ∀ i, i < 8 → KiB Q.G (Q.sl i))
section LIV
variable {Q Q1 : Ab} {R R1 : Rb} {n : Nat} {G' : Gr} {T' : Tr}
theorem LIv.cg (h : LIv Q R) (hR : Rel Q1 R1) (e1 : Q1.G = Q.G) (e2 : Q1.T = Q.T) (e3 : Q1.E = Q.E) (e4 : Q1.mp = Q.mp) (e5 : Q1.ms = Q.ms) (e6 : Q1.sl = Q.sl) (e7 : Q1.fo = Q.fo) (e8 : R1.C = R.C) (e9 : R1.M = R.M) : LIv Q1 R1 := by
  obtain ⟨-, h2, h3, h4, h5⟩ := h
  refine ⟨hR, fun i p hp => ?_, fun i p hp => ?_, fun n hn => ?_, fun hf => ?_⟩
  · rw [e9, e1, e5]
    exact h2 i p (by rw [← e4]; exact hp)
  · rw [e1, e5]
    exact h3 i p (by rw [← e4]; exact hp)
  · rw [e1, e2, e3, e8]; exact h4 n hn
  · rw [e1, e6]; exact h5 (by rw [← e7]; exact hf)
/-- a graph has grown -/
theorem LIv.gr (h : LIv Q R) (hn : n < 4) {m : Nat} (hw : Gw m (Q.G n) (Q.T n) G' T') {E' : List (Nat × Nat)} {C' : List (Bool × Nat × Nat)} (hC : CaL G' T' n E' C') (hK : Q1.fo = 0 → Q.fo = 0 ∧ KiG (upF Q.G n G')) (hR : Rel Q1 R1) (e1 : Q1.G = upF Q.G n G') (e2 : Q1.T = upF Q.T n T') (e3 : Q1.E = upF Q.E n E') (e4 : Q1.mp = Q.mp) (e5 : Q1.ms = Q.ms) (e6 : Q1.sl = Q.sl) (e8 : R1.C = upF R.C n C') (e9 : R1.M = R.M) : LIv Q1 R1 := by
  obtain ⟨-, h2, h3, h4, h5⟩ := h
  obtain ⟨g1, g2, g3⟩ := h4 n hn
  obtain ⟨k1, k2, k3, k4, k5, k6, k7, k8⟩ := hw.keep g1
  refine ⟨hR, fun i p hp => ?_, fun i p hp => ?_, fun j hj => ?_, fun hf => ?_⟩
  · rw [e4] at hp
    rw [e9, e1, e5, h2 i p hp]
    by_cases e : p = n
    · subst e
      rw [upF_s, k5 _ (h3 i p hp).2]
    · rw [upF_o e]
  · rw [e4] at hp
    rw [e1, e5]
    obtain ⟨q1, q2⟩ := h3 i p hp
    refine ⟨q1, ?_⟩
    by_cases e : p = n
    · subst e
      rw [upF_s]; omega
    · rw [upF_o e]; exact q2
  · rw [e1, e2, e3, e8]
    by_cases e : j = n
    · subst e
      rw [upF_s, upF_s, upF_s, upF_s]
      exact ⟨k1, k3 g2, hC⟩
    · rw [upF_o e, upF_o e, upF_o e, upF_o e]
      exact h4 j hj
  · obtain ⟨f0, kg⟩ := hK hf
    rw [e1, e6]
    exact ⟨kg, fun i hi => ((h5 f0).2 i hi).up k7 k4 g1.1⟩
/-- a slot was filled -/
theorem LIv.sl (h : LIv Q R) (hR : Rel Q1 R1) {i : Nat} {B : List Nat} (hB : Q1.fo = 0 → KiB Q.G B) (e1 : Q1.G = Q.G) (e2 : Q1.T = Q.T) (e3 : Q1.E = Q.E) (e4 : Q1.mp = Q.mp) (e5 : Q1.ms = Q.ms) (e6 : Q1.sl = upF Q.sl i B) (e7 : Q1.fo = 0 → Q.fo = 0) (e8 : R1.C = R.C) (e9 : R1.M = R.M) : LIv Q1 R1 := by
  obtain ⟨-, h2, h3, h4, h5⟩ := h
  refine ⟨hR, fun i p hp => ?_, fun i p hp => ?_, fun n hn => ?_, fun hf => ?_⟩
  · rw [e9, e1, e5]
    exact h2 i p (by rw [← e4]; exact hp)
  · rw [e1, e5]
    exact h3 i p (by rw [← e4]; exact hp)
  · rw [e1, e2, e3, e8]; exact h4 n hn
  · obtain ⟨k1, k2⟩ := h5 (e7 hf)
    rw [e1, e6]
    refine ⟨k1, fun j hj => ?_⟩
    by_cases e : j = i
    · subst e
      rw [upF_s]; exact hB hf
    · rw [upF_o e]; exact k2 j hj
/-- a mark was set -/
theorem LIv.mk (h : LIv Q R) (hn : n < 4) (i : Nat) : LIv (Q.sMk (upF Q.mp i (some n)) (upF Q.ms i (Q.G n).n)) (mkR R i n) := by
  obtain ⟨h1, h2, h3, h4, h5⟩ := h
  refine ⟨h1.mk i n _, fun j p hp => ?_, fun j p hp => ?_, h4, h5⟩
  · have hp : upF Q.mp i (some n) j = some p := hp
    show upF R.M i (R.Q.G n).cn j = (Q.G p).cnt (upF Q.ms i (Q.G n).n j)
    by_cases e : j = i
    · subst e
      rw [upF_s] at hp
      injection hp with hp
      subst hp
      rw [upF_s, upF_s, h1.1]
      rfl
    · rw [upF_o e] at hp
      rw [upF_o e, upF_o e]
      exact h2 j p hp
  · have hp : upF Q.mp i (some n) j = some p := hp
    show p < 4 ∧ upF Q.ms i (Q.G n).n j ≤ (Q.G p).n
    by_cases e : j = i
    · subst e
      rw [upF_s] at hp
      injection hp with hp
      subst hp
      rw [upF_s]
      exact ⟨hn, Nat.le_refl _⟩
    · rw [upF_o e] at hp
      rw [upF_o e]
      exact h3 j p hp
/-- what the contracts ask for -/
theorem LIv.abc (h : LIv Q R) : AbC R := fun p hp => by
  obtain ⟨h1, -, -, h4, -⟩ := h
  obtain ⟨a1, a2, a3⟩ := h4 p hp
  rw [h1.1, h1.2.1]
  exact ⟨a1, a3.1⟩
theorem LIv.ucp (h : LIv Q R) : UcP R := fun p hp c hc => by
  obtain ⟨h1, -, -, h4, -⟩ := h
  obtain ⟨a1, a2, a3⟩ := h4 p hp
  obtain ⟨k, hk⟩ := List.getElem?_of_mem hc
  have hl := (List.getElem?_eq_some_iff.1 hk).1
  rw [← a3.2.1] at hl
  obtain ⟨b1, b2, b3, b4, b5, b6⟩ := a3.2.2 k _ c (List.getElem?_eq_getElem hl) hk
  rw [h1.1]
  have hlast := b6 ((Q.E p)[k].2 - 1) (by omega)
  have := (List.getElem?_eq_some_iff.1 hlast).1
  refine ⟨by omega, fun hf m hm => ?_⟩
  have e : uE (Q.G p) p c m = (Q.E p)[k].1 + m := by
    unfold uE
    rw [List.getD_eq_getElem?_getD, b6 m (by omega)]; rfl
  rw [e]
  have nb : ¬ ((Q.G p).ev (Q.E p)[k].1).ch ≠ none := fun w => by
    have := b5.2 w
    rw [hf] at this; cases this
  rcases b3 with ⟨x1, -⟩ | ⟨x1, -⟩
  · exact absurd (x1 0 (by omega)) nb
  · exact x1 m (by omega)
theorem LIv.edw (h : LIv Q R) : ∀ n, n < 4 → EdW (Q.G n) (Q.T n) n (Q.E n) := fun p hp e he => by
  obtain ⟨h1, -, -, h4, -⟩ := h
  obtain ⟨a1, a2, a3⟩ := h4 p hp
  obtain ⟨k, hk⟩ := List.getElem?_of_mem he
  have hl := (List.getElem?_eq_some_iff.1 hk).1
  rw [a3.2.1] at hl
  obtain ⟨b1, b2, b3, b4, b5, b6⟩ := a3.2.2 k e _ hk (List.getElem?_eq_getElem hl)
  refine ⟨b1, b2, ?_, ?_⟩
  · rcases b3 with x | x
    · exact Or.inl x
    · exact Or.inr x.1
  · obtain ⟨q1, q2, -⟩ := (agE_at a1.1).1 (b6 0 b1)
    exact ⟨_, a1.1.sl1 _ q1, q2⟩
theorem LIv.abm (h : LIv Q R) : AbM Q := fun i _ p hp => (h.2.2.1 i p hp).2
theorem LIv.twk (h : LIv Q R) (hf : Q.fo = 0) {p q : Nat} (hp : p < 4) (hq : q < 4) : twK (R.Q.G p) (R.Q.T p) (R.Q.G q) := by
  rw [h.1.1, h.1.2.1]
  exact (h.2.2.2.2 hf).1.tw hp hq (h.2.2.2.1 p hp).1 (h.2.2.2.1 q hq).1.1
end LIV
