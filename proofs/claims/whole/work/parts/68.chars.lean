/-! ===== What symbols are ===== -/
theorem symM_1 (f : Int32) : 1 ≤ symM f := by
  unfold symM
  split
  · split <;> decide
  · decide
theorem symR_nn (B : List Nat) (n m t k : Nat) (c : Int32) (hm : 1 ≤ m) (hm3 : m ≤ 3) : symR B n m t k c = -1 ∨ ∃ x, x ≤ 1114111 ∧ symR B n m t k c = nI x := by
  unfold symR
  cases symGo B n t k c with
  | none => exact Or.inl rfl
  | some c =>
    dsimp only
    by_cases h1 : isCh c = 0
    · rw [if_pos h1]; exact Or.inl rfl
    · rw [if_neg h1]
      by_cases h2 : wOf c = nI m + 1
      · rw [if_pos h2]
        right
        have c128 : 128 ≤ c := Classical.byContradiction (fun w => by
          rw [wOf, if_neg w, nI_1] at h2
          have := (nI_eq (a := 1) (b := m + 1) (by decide) (by omega)).1 h2
          omega)
        have cn : ¬ c < 0 := fun w => absurd (Int32.lt_of_le_of_lt c128 w) (by decide)
        obtain ⟨x, hx, rfl⟩ := nI_of cn
        refine ⟨x, Nat.le_of_not_lt (fun w => h1 ?_), rfl⟩
        exact if_pos ((nI_ltI (a := 1114111) (b := x) (by decide) hx).2 w)
      · rw [if_neg h2]; exact Or.inl rfl
theorem symAt_nn {B : List Nat} {n : Nat} (hn : n < 2147483648) (hB : ∀ b ∈ B, b < 256) : symAt B n = -1 ∨ ∃ x, x ≤ 1114111 ∧ symAt B n = nI x := by
  have hb : B.getD n 0 < 256 := by
    rw [List.getD_eq_getElem?_getD]
    cases h : B[n]? with
    | none => exact (by decide : (0 : Nat) < 256)
    | some b => exact hB b (List.mem_of_getElem? h)
  rw [symAt, bAt_nI hn, symF]
  by_cases h1 : 128 ≤ nI (B.getD n 0)
  · rw [if_pos h1]
    split
    · exact Or.inl rfl
    · exact symR_nn B n _ _ _ _ (symM_1 _) (symM_le _)
  · rw [if_neg h1]
    exact Or.inr ⟨_, by omega, rfl⟩
/-- the symbols of a text are characters -/
theorem symsF_nn {B : List Nat} (hB : ∀ b ∈ B, b < 256) (hl : B.length < 2147483648) : ∀ {t p : Nat} {L : List Int32}, symsF B t p = some L → ∀ c ∈ L, ∃ x, x ≤ 1114111 ∧ c = nI x
  | 0, p, L, h, c, hc => by
    cases h; cases hc
  | t + 1, p, L, h, c, hc => by
    rw [symsF] at h
    split at h
    · rename_i hp
      split at h
      · cases h
      · rename_i h1
        cases h2 : symsF B t (p + wN (symAt B p)) with
        | none => rw [h2] at h; cases h
        | some M =>
          rw [h2] at h
          cases h
          rcases List.mem_cons.1 hc with q | q
          · rw [q]
            exact (symAt_nn (by omega) hB).resolve_left h1
          · exact symsF_nn hB hl h2 c q
    · cases h; cases hc
