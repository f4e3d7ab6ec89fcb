/-! ===== The reference's way to a line is the class's ===== -/
theorem lnR_1 (n : Int32) : ∀ (T : List Int32) (l i : Nat) (b : Int32), (lnR n T l i b).1 = l + lnC T
  | [], l, i, b => rfl
  | c :: T, l, i, b => by
    rw [lnR, lnC]
    by_cases e : c = 10
    · rw [if_pos e, if_pos e, lnR_1 n T]; omega
    · rw [if_neg e, if_neg e, lnR_1 n T]; omega
/-- beyond the line nothing changes -/
theorem lnR_st {n : Int32} : ∀ (T : List Int32) (l i : Nat) (b : Int32), (∀ j, l ≤ j → j ≤ l + T.length → nI j ≠ n) → (lnR n T l i b).2.2 = b
  | [], l, i, b, _ => rfl
  | c :: T, l, i, b, h => by
    rw [List.length_cons] at h
    rw [lnR]
    by_cases e : c = 10
    · rw [if_pos e, if_neg (h l (Nat.le_refl _) (by omega))]
      exact lnR_st T (l + 1) (i + 1) b (fun j a q => h j (by omega) (by omega))
    · rw [if_neg e]
      exact lnR_st T l (i + 1) b (fun j a q => h j a (by omega))
theorem lnR_F {m : Nat} (hm : m < 2147483648) : ∀ (T : List Int32) (l i : Nat), l < m → l + T.length + 1 < 2147483648 → (lnR (nI m) T (l + 1) i (-1)).2.2 = lnF (nI m) T l i
  | [], l, i, hl, hb => by
    rw [lnF, if_neg (fun e => by have := (nI_eq (by omega) hm).1 e; omega)]; rfl
  | c :: T, l, i, hl, hb => by
    rw [List.length_cons] at hb
    rw [lnR, lnF, if_pos ((nI_ltI (by omega) hm).2 hl)]
    by_cases e : c = 10
    · rw [if_pos e, if_pos e]
      by_cases q : l + 1 = m
      · rw [if_pos (by rw [q]), lnF_stop (fun w => by have := (nI_ltI (by omega) hm).1 w; omega), if_pos (by rw [q])]
        exact lnR_st T (l + 1 + 1) (i + 1) _ (fun j a b w => by have := (nI_eq (by omega) hm).1 w; omega)
      · rw [if_neg (fun w => q ((nI_eq (by omega) hm).1 w))]
        exact lnR_F hm T (l + 1) (i + 1) (by omega) (by omega)
    · rw [if_neg e, if_neg e]
      exact lnR_F hm T l (i + 1) hl (by omega)
theorem lnR_eq {x : Int32} {T : List Int32} (hT : T.length < 2147483000) : (lnR x T 1 0 (if x = 0 then 0 else -1)).2.2 = lnF x T 0 0 := by
  by_cases c : x < 0
  · have x0 : x ≠ 0 := fun e => by rw [e] at c; exact absurd c (by decide)
    rw [if_neg x0, lnF_stop (fun w => absurd (Int32.lt_trans w c) (by decide)), if_neg (fun e => x0 e.symm)]
    exact lnR_st T 1 0 _ (fun j a b w => by rw [← w] at c; exact nI_pos (by omega) c)
  · obtain ⟨m, hm, rfl⟩ := nI_of c
    by_cases e : m = 0
    · subst e
      rw [if_pos (show nI 0 = 0 from rfl), lnF_stop (fun w => absurd w (by decide)), if_pos rfl]
      exact lnR_st T 1 0 _ (fun j a b w => by have := (nI_eq (by omega) (by decide)).1 w; omega)
    · have m0 : ¬ nI m = 0 := fun w => e ((nI_eq (b := 0) hm (by decide)).1 w)
      rw [if_neg m0]
      exact lnR_F hm T 0 0 (by omega) (by omega)
