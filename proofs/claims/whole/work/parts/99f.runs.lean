/-! ===== what bring goes through ===== -/
section RUNS
variable {B L : List Nat}
theorem nn_nI {c : Int32} (h0 : 0 ≤ c) : ∃ n, n < 2147483648 ∧ c = nI n ∧ (n : Int) = c.toInt := by
  have h1 : (0 : Int) ≤ c.toInt := by rw [Int32.le_iff_toInt_le] at h0; exact h0
  have h2 : c.toInt < 2147483648 := Int32.toInt_lt c
  refine ⟨c.toInt.toNat, by omega, ?_, Int.toNat_of_nonneg h1⟩
  show c = Int32.ofNat c.toInt.toNat
  rw [← Int32.ofInt_eq_ofNat, Int.toNat_of_nonneg h1, Int32.ofInt_toInt]
theorem sym_ok {n : Nat} (hB : ∀ b ∈ B, b < 256) (hn : n < 2147483648) (h : symAt B n ≠ -1) : ∃ c, c < 2000000 ∧ symAt B n = nI c := by
  have hb : bAt B (nI n) = nI (B.getD n 0) := bAt_nI hn
  have hg : B.getD n 0 < 256 := by
    rw [List.getD_eq_getElem?_getD]
    cases e : B[n]? with
    | none => exact (by decide : 0 < 256)
    | some v => exact hB v (List.mem_of_getElem? e)
  unfold symAt at h ⊢
  unfold symF at h ⊢
  by_cases h1 : 128 ≤ bAt B (nI n)
  · rw [if_pos h1] at h ⊢
    by_cases h2 : bAt B (nI n) < 192 ∨ 247 < bAt B (nI n) ∨ B.length ≤ n + symM (bAt B (nI n))
    · rw [if_pos h2] at h; exact absurd rfl h
    · rw [if_neg h2] at h ⊢
      unfold symR at h ⊢
      split at h
      · exact absurd rfl h
      · rename_i c hc
        by_cases h3 : isCh c = 0
        · rw [if_pos h3] at h; exact absurd rfl h
        · rw [if_neg h3] at h
          by_cases h4 : wOf c = nI (symM (bAt B (nI n))) + 1
          · rw [if_neg h3, if_pos h4]
            have c2 : 128 ≤ c := Decidable.byContradiction (fun z => by
              rw [wOf_N, show wN c = 1 from by unfold wN; rw [if_neg z], show (1 : Int32) = nI 1 from rfl, nI_add] at h4
              have h5 := (nI_eq (by decide) (by have := symM_le (bAt B (nI n)); omega)).1 h4
              have h6 : 1 ≤ symM (bAt B (nI n)) := by
                unfold symM
                split
                · split <;> decide
                · decide
              omega)
            have c3 : ¬ 1114111 < c := fun z => h3 (by unfold isCh; rw [if_pos z])
            rw [Int32.le_iff_toInt_le] at c2
            rw [Int32.lt_iff_toInt_lt] at c3
            have e1 : Int32.toInt 128 = 128 := by decide
            have e2 : Int32.toInt 1114111 = 1114111 := by decide
            have e0 : Int32.toInt 0 = 0 := by decide
            obtain ⟨k, hk1, hk2, hk3⟩ := nn_nI (c := c) (by rw [Int32.le_iff_toInt_le]; omega)
            exact ⟨k, by omega, hk2⟩
          · rw [if_neg h4] at h; exact absurd rfl h
  · rw [if_neg h1, hb]
    exact ⟨B.getD n 0, by omega, rfl⟩
theorem symsF_st {f p : Nat} {x : Int32} {l : List Int32} (h : symsF B f p = some (x :: l)) : ∃ f', symAt B p = x ∧ x ≠ -1 ∧ p < B.length ∧ symsF B f' (p + wN x) = some l := by
  cases f with
  | zero => rw [symsF] at h; cases h
  | succ f =>
    rw [symsF] at h
    by_cases h1 : p < B.length
    · rw [if_pos h1] at h
      by_cases h2 : symAt B p = -1
      · rw [if_pos h2] at h; cases h
      · rw [if_neg h2] at h
        cases e : symsF B f (p + wN (symAt B p)) with
        | none => rw [e] at h; cases h
        | some l2 =>
          rw [e] at h
          injection h with h
          injection h with h3 h4
          refine ⟨f, h3, h3 ▸ h2, h1, ?_⟩
          rw [← h3, ← h4]; exact e
    · rw [if_neg h1] at h; cases h
def insN : List SpT → Nat
  | [] => 0
  | s :: A => (if s.2.2.2.2.2.2.1 = 0 then s.2.2.1 else 0) + insN A
theorem rdL_pre {qs qp qo : Nat} {A : List SpT} {I' : Nat} {se : RdT} : ∀ {f T I : Nat} {st : RdT} {M : List SpT}, rdL B L qs qp qo f T I st M = some (A, I', se) → ∃ R, A = M ++ R ∧ I' = I + insN R
  | 0, T, I, st, M, h => by rw [rdL] at h; cases h
  | f + 1, T, I, st, M, h => by
    by_cases hc : T < 8192 ∧ st.1 < qs
    · cases hs : rdS B L qs qp qo st with
      | none => rw [rdL_2 hc hs] at h; cases h
      | some x =>
        obtain ⟨s, st'⟩ := x
        by_cases h3 : s.2.2.1 ≤ 8192 - T ∧ ¬ (T = 0 ∧ s.2.2.2.1 = 0)
        · rw [rdL_4 hc hs h3] at h
          obtain ⟨R, h4, h5⟩ := rdL_pre h
          exact ⟨s :: R, by rw [h4, List.append_assoc]; rfl, by rw [h5, insN]; omega⟩
        · rw [rdL_3 hc hs h3] at h; cases h
    · rw [rdL_1 hc] at h
      injection h with h
      injection h with h1 h2
      injection h2 with h2 h3
      exact ⟨[], by rw [h1, List.append_nil], by rw [h2]; rfl⟩
theorem rdP_pr {n q p c p' : Nat} {M : List (Nat × Nat)} (h : rdP B n q p = some (c, M, p')) : (vint B q p).1 = some c ∧ prR B q n (c - 1) [] (vint B q p).2 = some (M, p') := by
  cases ev : (vint B q p).1 with
  | none => rw [rdP_1 ev] at h; cases h
  | some c2 =>
    cases ep : prR B q n (c2 - 1) [] (vint B q p).2 with
    | none => rw [rdP_2 ev ep] at h; cases h
    | some z =>
      obtain ⟨z1, z2⟩ := z
      rw [rdP_3 ev ep] at h
      injection h with h
      injection h with h1 h2
      injection h2 with h2 h3
      subst h1 h2 h3
      exact ⟨rfl, ep⟩
theorem rdO_ok {q p z k p' : Nat} {e i e' : Int} (h : rdO B q p z e = some (k, i, e', p')) : 0 ≤ i ∧ 0 ≤ i + opS k * ((z : Int) - 1) := by
  cases ev : (vint B q p).1 with
  | none => rw [rdO_1 ev] at h; cases h
  | some c =>
    by_cases hn : 0 ≤ e + zz c ∧ 0 ≤ e + zz c + opS (c % 3) * ((z : Int) - 1)
    · rw [rdO_3 ev hn] at h
      injection h with h
      injection h with h1 h2
      injection h2 with h2 h3
      subst h1 h2
      exact hn
    · rw [rdO_2 ev hn] at h; cases h
/-- what a span that was read keeps to -/
theorem rdS_ok {qs qp qo : Nat} {st st' : RdT} {s : SpT} (h : rdS B L qs qp qo st = some (s, st')) : s.1 ∈ L ∧ prR B qp L.length (s.2.2.2.1 - 1) [] s.2.2.2.2.2.1 = some (s.2.2.2.2.1, st'.2.1) ∧ s.2.2.2.2.2.1 = (vint B qp st.2.1).2 ∧ 0 ≤ s.2.2.2.2.2.2.2 ∧ 0 ≤ s.2.2.2.2.2.2.2 + opS s.2.2.2.2.2.2.1 * ((s.2.2.1 : Int) - 1) := by
  cases h1 : (vint B qs st.1).1 with
  | none => rw [rdS_1 h1] at h; cases h
  | some a =>
    cases h2 : (vint B qs (vint B qs st.1).2).1 with
    | none => rw [rdS_2 h2] at h; cases h
    | some nu =>
      cases h3 : (vint B qs (vint B qs (vint B qs st.1).2).2).1 with
      | none => rw [rdS_3 h3] at h; cases h
      | some z =>
        by_cases hn : a < L.length ∧ 1 ≤ z
        · rw [rdS_5 h1 h2 h3 hn] at h
          cases hP : rdP B L.length qp st.2.1 with
          | none => rw [hP] at h; cases h
          | some P =>
            rw [hP] at h
            cases hO : rdO B qo st.2.2.1 z st.2.2.2 with
            | none => rw [hO] at h; cases h
            | some O =>
              rw [hO] at h
              obtain ⟨k, i, e', p'⟩ := O
              obtain ⟨c, M, p2⟩ := P
              have hb := rdO_ok hO
              have hp := rdP_pr hP
              injection h with h
              injection h with h4 h5
              subst h4 h5
              refine ⟨?_, hp.2, rfl, hb⟩
              show L.getD a 0 ∈ L
              rw [List.getD_eq_getElem?_getD, List.getElem?_eq_getElem hn.1]
              exact List.getElem_mem hn.1
        · rw [rdS_4 h1 h2 h3 hn] at h; cases h
end RUNS
