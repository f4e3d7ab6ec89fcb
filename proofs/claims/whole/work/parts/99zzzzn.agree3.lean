/-! ===== Both sides agree: patches ===== -/
theorem col_B {v : List Int32} (h : v.length ≤ 32768) : vB (colV (bPuts [] v)) = vbN 5 v.length ++ clp (vB v) := by
  have e : bPuts [] v = vB v := by
    rw [bPuts_fit (by rw [List.length_nil]; omega), List.nil_append]; rfl
  have hl : (vB v).length = v.length := vB_len v
  rw [e]
  unfold colV
  rw [vB_app, hl, vbs_5 (by omega), vB_rng (vB_lt v) (by omega) (by omega), clp_id (by omega), List.drop_zero, List.take_of_length_le (by omega)]
theorem co_B {V : Nat → List Int32} {p : Nat} (hp : p < 4) : ∀ {n : Nat}, (∀ k, k < n → (V k).length ≤ 32768) → vB (coV V (nI p) n) = rmB V p n
  | 0, _ => by
    show [b8 87, b8 1, b8 (nI p)] = [87, 1, p]
    rw [b8_nI (by omega)]; rfl
  | n + 1, h => by
    rw [coV, rmB, vB_app, co_B hp (fun k hk => h k (by omega)), col_B (h n (by omega))]
/-- the patches are alike -/
theorem co_eq {V : Nat → List Int32} {p : Nat} (hp : p < 4) (hV : ∀ k, k < 5 → (V k).length ≤ 32768) (hl : (rmB V p 5).length + 4 ≤ 32768) : bPuts [] (coA V (nI p)) = rmA V p := by
  have e1 := co_B (V := V) hp (n := 5) hV
  have hv : (coV V (nI p) 5).length = (rmB V p 5).length := by rw [← e1, vB_len]
  have e2 : bPuts [] (coV V (nI p) 5) = rmB V p 5 := by
    rw [bPuts_fit (by rw [List.length_nil]; omega), List.nil_append]
    exact e1
  have ea : (coA V (nI p)).length = (coV V (nI p) 5).length + 4 := by
    unfold coA
    rw [List.length_append, sealV_len]
  rw [bPuts_fit (by rw [List.length_nil, ea]; omega), List.nil_append]
  show vB (coA V (nI p)) = _
  unfold coA rmA
  rw [vB_app, e1, e2, seal_eq, crB_of _ (by omega)]
theorem rmB_l5 (V : Nat → List Int32) (p : Nat) : (rmB V p 5).length = 3 + ((vbN 5 (V 0).length).length + (V 0).length) + ((vbN 5 (V 1).length).length + (V 1).length) + ((vbN 5 (V 2).length).length + (V 2).length) + ((vbN 5 (V 3).length).length + (V 3).length) + ((vbN 5 (V 4).length).length + (V 4).length) := by
  have e : ∀ v : List Int32, (vbN 5 v.length ++ clp (vB v)).length = (vbN 5 v.length).length + v.length := fun v => by rw [List.length_append, clp_len, vB_len]
  rw [rmB, rmB, rmB, rmB, rmB, List.length_append, List.length_append, List.length_append, List.length_append, List.length_append, e, e, e, e, e]
  rfl
theorem vbN_vw {n : Nat} (h : n ≤ 32768) : (vbN 5 n).length = vwN n := by
  unfold vwN
  by_cases c : n ≤ 127
  · rw [if_neg (by omega), vbN, if_pos c]; rfl
  · rw [if_pos (by omega), vbN, if_neg c]
    by_cases d : n < 16384
    · rw [if_neg (by omega), vbN, if_pos (by omega)]; rfl
    · rw [if_pos (by omega), vbN, if_neg (by omega), vbN, if_pos (by omega)]; rfl
/-- both find a patch too long alike -/
theorem pa_iff (V : Nat → List Int32) (p : Nat) : 7 + szN (V 0) + szN (V 1) + szN (V 2) + szN (V 3) + szN (V 4) ≤ 32768 ↔ (rmB V p 5).length + 4 ≤ 32768 := by
  rw [rmB_l5]
  by_cases c : ∀ k, k < 5 → (V k).length ≤ 32768
  · have e : ∀ k, k < 5 → szN (V k) = (vbN 5 (V k).length).length + (V k).length := fun k hk => by
      rw [szN, if_pos (c k hk), vbN_vw (c k hk)]; omega
    rw [e 0 (by decide), e 1 (by decide), e 2 (by decide), e 3 (by decide), e 4 (by decide)]
    omega
  · obtain ⟨k, hk, hl⟩ : ∃ k, k < 5 ∧ 32768 < (V k).length := Classical.byContradiction (fun q => c (fun k hk => Nat.le_of_not_lt (fun w => q ⟨k, hk, w⟩)))
    have e : szN (V k) = 32768 := if_neg (by omega)
    rcases (show k = 0 ∨ k = 1 ∨ k = 2 ∨ k = 3 ∨ k = 4 by omega) with q | q | q | q | q <;> subst q <;> omega
theorem pa_fit {V : Nat → List Int32} {p : Nat} (h : (rmB V p 5).length + 4 ≤ 32768) : ∀ k, k < 5 → (V k).length ≤ 32768 := fun k hk => by
  rw [rmB_l5] at h
  rcases (show k = 0 ∨ k = 1 ∨ k = 2 ∨ k = 3 ∨ k = 4 by omega) with q | q | q | q | q <;> subst q <;> omega
