/-! ===== Both sides agree: differ, insert ===== -/
theorem hrun_n : ∀ {P : List (Nat × Nat)} {x x' : HS}, x.2 = x'.2 → (hrun P x).2 = (hrun P x').2 := by
  have hc : ∀ {x x' : HS}, x.2 = x'.2 → (hcl x).2 = (hcl x').2 := fun {x x'} e => by
    obtain ⟨N, r⟩ := x
    obtain ⟨N', r'⟩ := x'
    have e : r = r' := e
    subst e
    rfl
  intro P
  induction P with
  | nil => intro x x' e; exact hc e
  | cons p P ih =>
    intro x x' e
    refine ih (x := hst x p) (x' := hst x' p) ?_
    have e2 := hc e
    unfold hst
    split
    · rw [e2]
    · rw [e]
section AGV
variable {Q Q1 : Ab} {R R1 : Rb} {p x y s a b w v v' : Int32} {c th : Nat}
/-- differ: the same hunks -/
theorem df_res (hG : ∀ n, n < 4 → GT (Q.G n) (Q.T n)) (hR : Rel Q R) (hM : RelM Q R) {i j n : Nat} (hn : n < 4) (hi : Q.mp i = some n) (hj : Q.mp j = some n) (kz k2 : Nat → Nat) : (dfR R k2 i j).2.1 = (dfX kz Q i j).2.1 := by
  have e : rfP R i j = dfP Q i j := by
    unfold rfP dfP
    rw [hR.1, hR.2.1, hR.2.2.2.2.2.2.2.1, hi]
    show (Q.T n).od.map (rfN (Q.G n) (R.M i) (R.M j)) = hpG (Q.G n) (Q.ms i) (Q.ms j) (Q.T n).od
    rw [hM i n hi, hM j n hj]
    exact df_eq (hG n hn) _ _
  unfold dfR dfX
  rw [e]
  exact congrArg Prod.fst (hrun_n (x := dfO k2) (x' := (kz 12, [], 0, 0, 0, 0)) rfl)
/-- insert: both runs are one -/
theorem ag_in {n i n' i' : Nat} {L L' : List Nat} {G1 G2 : Gr} {T1 T2 : Tr} (hB : BdQ Q) (hn : n < 4) (hp : p = nI n) (hi : i ≤ visN (Q.G n) (Q.T n)) (hx : x = nI i) (hs : syms Q.tp = some (L.map nI)) (hrun : Run n (owN (Q.G n) n) (insO i L) (Q.G n) (Q.T n) G1 T1) (hn' : n' < 4) (hp' : p = nI n') (hi' : i' ≤ visN (Q.G n') (Q.T n')) (hx' : x = nI i') (hs' : syms Q.tp = some (L'.map nI)) (hL : ∀ c, c ∈ L → c < 2147483648) (hL' : ∀ c, c ∈ L' → c < 2147483648) (hrun' : Run n' (owN (Q.G n') n') (insO i' L') (Q.G n') (Q.T n') G2 T2) : n = n' ∧ i = i' ∧ L = L' ∧ G1 = G2 ∧ T1 = T2 := by
  have := nI_ij hp hp' (by omega) (by omega)
  subst this
  have b := (hB.1 n hn).2
  have := nI_ij hx hx' (by omega) (by omega)
  subst this
  have e : L.map nI = L'.map nI := by
    rw [hs] at hs'
    injection hs'
  have inj : ∀ (A B : List Nat), (∀ c, c ∈ A → c < 2147483648) → (∀ c, c ∈ B → c < 2147483648) → A.map nI = B.map nI → A = B := by
    intro A
    induction A with
    | nil =>
      intro B _ _ e
      cases B with
      | nil => rfl
      | cons b B => cases e
    | cons a A ih =>
      intro B hA hB e
      cases B with
      | nil => cases e
      | cons b B =>
        rw [List.map_cons, List.map_cons] at e
        injection e with e1 e2
        rw [(nI_eq (hA a List.mem_cons_self) (hB b List.mem_cons_self)).1 e1, ih B (fun c hc => hA c (List.mem_cons_of_mem _ hc)) (fun c hc => hB c (List.mem_cons_of_mem _ hc)) e2]
  have := inj L L' hL hL' e
  subst this
  obtain ⟨rfl, rfl⟩ := hrun.uq hrun'
  exact ⟨rfl, rfl, rfl, rfl, rfl⟩
end AGV
