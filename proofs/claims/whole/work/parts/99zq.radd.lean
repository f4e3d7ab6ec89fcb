/-! ===== The reference's graph: add ===== -/
section RSG
variable {S S' : MM} {F F' : Nat → Nat × Nat} {i : Nat} {y : Nat → Nat} {fi : Nat → Int32} {fe : Nat → Nat → Int32} {fz : Nat → Nat}
def updZ (fi : Nat → Int32) (k : Nat) (v : Int32) : Nat → Int32 := fun j => if j = k then v else fi j
theorem RS.si (h : RS S F i y fi fe fz) (k : Nat) (v : Int32) : RS (sI S (1300 + k) (y 0) v) F i y (updZ fi k v) fe fz := by
  refine ⟨h.1, h.2.1, fun j => ?_, h.2.2.2.1, h.2.2.2.2⟩
  rw [mI_sI, updZ]
  by_cases c : j = k
  · rw [if_pos ⟨by rw [c], rfl⟩, if_pos c]
  · rw [if_neg (fun z => c (by omega)), if_neg c]
    exact h.2.2.1 j
def yat (y : Nat → Nat) (s q : Nat) : Nat → Nat := fun k => if k = 100 + s then q else y k
def Fat (F : Nat → Nat × Nat) (i s q : Nat) : Nat → Nat × Nat := fun b => if b = q then (i, 100 + s) else F b
theorem RS.grow (h : RS S F i y fi fe fz) (hi : i ≠ 0) {s q n : Nat} (hs : s < 16) (hq : q ∉ mL S) : RS (rR (cpI S (y (100 + s)) q n) (y 5) (va_up (eR (cpI S (y (100 + s)) q n) (y 5)) s (some q))) (Fat F i s q) i (yat y s q) fi (updF fe (100 + s) (fun k => if k < fz s then fe (100 + s) k else 0)) (updN fz s n) := by
  have ne : ∀ b, b ∈ mL S → b ≠ q := fun b hb e => hq (e ▸ hb)
  have n0 := ne _ h.1.1.1
  have nk : ∀ k, 3 ≤ k → k ≤ 25 → k ≠ 17 → y k ≠ q := fun k a b c => ne _ (h.2.1 k a b c).2.2.1.1
  have na : ∀ t, t < 16 → y (100 + t) ≠ q := fun t ht => ne _ (h.2.2.2.1 t ht).2.1.1
  have y0 : yat y s q 0 = y 0 := if_neg (by omega)
  have yk : ∀ k, k ≤ 25 → yat y s q k = y k := fun k a => if_neg (by omega)
  have ys : yat y s q (100 + s) = q := if_pos rfl
  have yt : ∀ t, t ≠ s → yat y s q (100 + t) = y (100 + t) := fun t c => if_neg (by omega)
  refine ⟨⟨?_, ?_⟩, fun k a b c => ?_, fun k => ?_, fun t ht => ?_, fun k hk => ?_⟩
  · rw [y0]; exact isO_nA (n := n) h.1.1 hq
  · rw [y0, Fat, if_neg n0]; exact h.1.2
  · obtain ⟨d1, d2, d3, d4⟩ := h.2.1 k a b c
    rw [y0, yk k b, Fat, if_neg (nk k a b c)]
    refine ⟨d1, d2, isO_nA (n := n) d3 hq, ?_⟩
    show mN (nA S q 17 n) (y k) = _
    rw [mN_nA, if_neg (nk k a b c)]; exact d4
  · rw [y0]; exact h.2.2.1 k
  · obtain ⟨d1, d2, d3, d4⟩ := h.2.2.2.1 t ht
    rw [yk 5 (by decide), eR_rR, if_pos rfl]
    by_cases c : t = s
    · subst c
      rw [ys, Fat, if_pos rfl]
      refine ⟨va_up_self _ _ _, isO_nA_self (n := n), rfl, ?_⟩
      show mN (nA S q 17 n) q = _
      rw [mN_nA, if_pos rfl, updN, if_pos rfl]
    · rw [yt t c, Fat, if_neg (na t ht)]
      have r5 := (h.2.1 5 (by decide) (by decide) (by decide)).2.2.1.1
      have k5 : eR (cpI S (y (100 + s)) q n) (y 5) = eR S (y 5) := ((Keep.nA (P := fun _ => False) (k := 17) (n := n) Keep.rf hq).2.1 (y 5) r5 (fun z => z)).2.2.2.2.2
      refine ⟨(va_up_ne _ _ c).trans (by rw [k5]; exact d1), isO_nA (n := n) d2 hq, d3, ?_⟩
      show mN (nA S q 17 n) (y (100 + t)) = _
      rw [mN_nA, if_neg (na t ht), updN, if_neg c]; exact d4
  · show eI (cpI S (y (100 + s)) q n) (yat y s q k) = _
    rw [cpI, eI_rI, updF]
    by_cases c : k = 100 + s
    · subst c
      rw [ys, if_pos rfl, if_pos rfl, (h.2.2.2.1 s hs).2.2.2, h.e (k := 100 + s) (Or.inr (by omega))]
    · have e1 : yat y s q k = y k := if_neg c
      have e2 : y k ≠ q := by
        rcases hk with w | w
        · exact nk k w.1 w.2.1 w.2.2
        · have := na (k - 100) (by omega)
          rw [show 100 + (k - 100) = k by omega] at this
          exact this
      rw [e1, if_neg e2, if_neg c, eI_nA, if_neg e2]
      exact h.e hk
end RSG
