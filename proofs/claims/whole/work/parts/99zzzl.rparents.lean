/-! ===== The reference reads the parents ===== -/
theorem vrd_gt {B : List Nat} {q : Nat} : ∀ {t p k w n : Nat}, (vrd B q t p k w).1 = some n → p < (vrd B q t p k w).2 ∧ (vrd B q t p k w).2 ≤ q
  | 0, p, k, w, n, h => by cases h
  | t + 1, p, k, w, n, h => by
    rw [vrd] at h ⊢
    by_cases c1 : p < q
    · rw [if_pos c1] at h ⊢
      by_cases c2 : k = 4 ∧ 7 < B.getD p 0
      · rw [if_pos c2] at h; cases h
      · rw [if_neg c2] at h ⊢
        by_cases c3 : 128 ≤ B.getD p 0
        · rw [if_pos c3] at h ⊢
          have := vrd_gt h
          omega
        · rw [if_neg c3] at h ⊢
          by_cases c4 : B.getD p 0 = 0 ∧ 0 < k
          · rw [if_pos c4] at h; cases h
          · rw [if_neg c4]; exact ⟨Nat.lt_succ_self p, c1⟩
    · rw [if_neg c1] at h; cases h
theorem vint_gt {B : List Nat} {q p n : Nat} (h : (vint B q p).1 = some n) : p < (vint B q p).2 ∧ (vint B q p).2 ≤ q := vrd_gt h
/-- so many pairs, as far as they can be read -/
def prX (B : List Nat) (q n : Nat) : Nat → List (Nat × Nat) → Nat → Bool × List (Nat × Nat) × Nat
  | 0, M, p => (true, M, p)
  | k + 1, M, p => match (vint B q p).1 with
    | none => (false, M, p)
    | some a => if a < n then (match (vint B q (vint B q p).2).1 with
      | none => (false, M, p)
      | some b => prX B q n k (M ++ [(a, b)]) (vint B q (vint B q p).2).2) else (false, M, p)
section PRX
variable {B : List Nat} {q n p k a b : Nat} {M : List (Nat × Nat)}
theorem prX_1 (h : (vint B q p).1 = none) : prX B q n (k + 1) M p = (false, M, p) := by rw [prX, h]
theorem prX_2 (h : (vint B q p).1 = some a) (hn : ¬ a < n) : prX B q n (k + 1) M p = (false, M, p) := by rw [prX, h]; exact if_neg hn
theorem prX_3 (h : (vint B q p).1 = some a) (h2 : (vint B q (vint B q p).2).1 = none) : prX B q n (k + 1) M p = (false, M, p) := by
  rw [prX, h]
  by_cases hn : a < n
  · exact (if_pos hn).trans (by rw [h2])
  · exact if_neg hn
theorem prX_4 (h : (vint B q p).1 = some a) (hn : a < n) (h2 : (vint B q (vint B q p).2).1 = some b) : prX B q n (k + 1) M p = prX B q n k (M ++ [(a, b)]) (vint B q (vint B q p).2).2 := by
  rw [prX, h]
  exact (if_pos hn).trans (by rw [h2])
theorem prX_len : ∀ {k : Nat} {M : List (Nat × Nat)} {p : Nat}, M.length ≤ (prX B q n k M p).2.1.length
  | 0, M, p => Nat.le_refl _
  | k + 1, M, p => by
    cases h1 : (vint B q p).1 with
    | none => rw [prX_1 h1]; exact Nat.le_refl _
    | some a =>
      by_cases hn : a < n
      · cases h2 : (vint B q (vint B q p).2).1 with
        | none => rw [prX_3 h1 h2]; exact Nat.le_refl _
        | some b =>
          rw [prX_4 h1 hn h2]
          exact Nat.le_trans (by rw [List.length_append]; exact Nat.le_add_right _ _) prX_len
      · rw [prX_2 h1 hn]; exact Nat.le_refl _
/-- as the class reads them -/
theorem prX_R : ∀ {k : Nat} {M : List (Nat × Nat)} {p : Nat}, prR B q n k M p = if (prX B q n k M p).1 = true then some (prX B q n k M p).2 else none
  | 0, M, p => rfl
  | k + 1, M, p => by
    cases h1 : (vint B q p).1 with
    | none => rw [prX_1 h1, prR_1 h1]; rfl
    | some a =>
      by_cases hn : a < n
      · cases h2 : (vint B q (vint B q p).2).1 with
        | none => rw [prX_3 h1 h2, prR_3 h1 h2]; rfl
        | some b => rw [prX_4 h1 hn h2, prR_4 h1 hn h2]; exact prX_R
      · rw [prX_2 h1 hn, prR_2 h1 hn]; rfl
end PRX
/-- the pairs with the agents' ids -/
def rsv (L : List Nat) (M : List (Nat × Nat)) : List (Nat × Nat) := M.map fun x => (L.getD x.1 0, x.2)
/-- the parents of the spans that are left, by span; D: those of the spans before -/
def rdPq (B L : List Nat) (q : Nat) (A : List SpR) : Nat → Nat → List (List (Nat × Nat)) → Bool × List (List (Nat × Nat)) × Nat
  | 0, p, D => (true, D, p)
  | k + 1, p, D => match (vint B q p).1 with
    | none => (false, D, p)
    | some c => if c = 0 then (if D.length = 0 then (false, D, p) else rdPq B L q A k (vint B q p).2 (D ++ [[((A.getD (D.length - 1) (0, 0, 0)).1, (A.getD (D.length - 1) (0, 0, 0)).2.1 + (A.getD (D.length - 1) (0, 0, 0)).2.2 - 1)]])) else (if (prX B q L.length (c - 1) [] (vint B q p).2).1 = true then rdPq B L q A k (prX B q L.length (c - 1) [] (vint B q p).2).2.2 (D ++ [rsv L (prX B q L.length (c - 1) [] (vint B q p).2).2.1]) else (false, D ++ [rsv L (prX B q L.length (c - 1) [] (vint B q p).2).2.1], 0))
def rpE (B L : List Nat) (q : Nat) (A : List SpR) (k : Nat) (D : List (List (Nat × Nat))) (x : Bool × List (Nat × Nat) × Nat) : Bool × List (List (Nat × Nat)) × Nat := if x.1 = true then rdPq B L q A k x.2.2 (D ++ [rsv L x.2.1]) else (false, D ++ [rsv L x.2.1], 0)
/-- the span before, its last event -/
def pvS (A : List SpR) (n : Nat) : Nat × Nat := ((A.getD (n - 1) (0, 0, 0)).1, (A.getD (n - 1) (0, 0, 0)).2.1 + (A.getD (n - 1) (0, 0, 0)).2.2 - 1)
theorem fl_1 {α : Type} (D : List (List α)) (W : List α) : (D ++ [W]).flatten = D.flatten ++ W := by
  rw [List.flatten_append]
  show _ ++ (W ++ []) = _
  rw [List.append_nil]
section RDPQ
variable {B L : List Nat} {q : Nat} {A : List SpR} {k p c : Nat} {D : List (List (Nat × Nat))}
theorem rdPq_1 (h : (vint B q p).1 = none) : rdPq B L q A (k + 1) p D = (false, D, p) := by rw [rdPq, h]
theorem rdPq_2 (h : (vint B q p).1 = some 0) (h0 : D.length = 0) : rdPq B L q A (k + 1) p D = (false, D, p) := by rw [rdPq, h]; exact (if_pos rfl).trans (if_pos h0)
theorem rdPq_3 (h : (vint B q p).1 = some 0) (h0 : ¬ D.length = 0) : rdPq B L q A (k + 1) p D = rdPq B L q A k (vint B q p).2 (D ++ [[pvS A D.length]]) := by rw [rdPq, h]; exact (if_pos rfl).trans (if_neg h0)
theorem rdPq_4 (h : (vint B q p).1 = some c) (h0 : c ≠ 0) : rdPq B L q A (k + 1) p D = rpE B L q A k D (prX B q L.length (c - 1) [] (vint B q p).2) := by rw [rdPq, h]; exact if_neg h0
theorem rdPq_len : ∀ {k p : Nat} {D : List (List (Nat × Nat))}, D.flatten.length ≤ (rdPq B L q A k p D).2.1.flatten.length
  | 0, p, D => Nat.le_refl _
  | k + 1, p, D => by
    have ap : ∀ W : List (Nat × Nat), D.flatten.length ≤ (D ++ [W]).flatten.length := fun W => by rw [fl_1, List.length_append]; exact Nat.le_add_right _ _
    cases h1 : (vint B q p).1 with
    | none => rw [rdPq_1 h1]; exact Nat.le_refl _
    | some c =>
      by_cases c0 : c = 0
      · subst c0
        by_cases d0 : D.length = 0
        · rw [rdPq_2 h1 d0]; exact Nat.le_refl _
        · rw [rdPq_3 h1 d0]; exact Nat.le_trans (ap _) rdPq_len
      · rw [rdPq_4 h1 c0]
        unfold rpE
        split
        · exact Nat.le_trans (ap _) rdPq_len
        · exact ap _
theorem rpE_len {x : Bool × List (Nat × Nat) × Nat} : D.flatten.length + x.2.1.length ≤ (rpE B L q A k D x).2.1.flatten.length := by
  have e : (D ++ [rsv L x.2.1]).flatten.length = D.flatten.length + x.2.1.length := by rw [fl_1, List.length_append, rsv, List.length_map]
  unfold rpE
  rw [← e]
  split
  · exact rdPq_len
  · exact Nat.le_refl _
end RDPQ
def npa (B L : List Nat) (cA cE : Nat → Nat) (A : List SpR) : Bool × List (List (Nat × Nat)) × Nat := rdPq B L (cE 2) A A.length (cA 2) []
/-- the rows' sizes behind n parents, and what their growing costs -/
def hz (kz : Nat → Nat) (n : Nat) : Nat → Nat := upF kz 47 (gw (kz 47) n)
def gqC (k : Nat) : Nat → Nat
  | 0 => 0
  | n + 1 => gqC k n + if gw k n = n then 2 else 0
def gqZ (k : Nat) : Nat → Nat
  | 0 => 0
  | n + 1 => gqZ k n + if gw k n = n then 4 * gw k n else 0
theorem gq_mono (k : Nat) {n m : Nat} (h : n ≤ m) : gqC k n ≤ gqC k m ∧ gqZ k n ≤ gqZ k m := by
  induction m with
  | zero => rw [show n = 0 by omega]; exact ⟨Nat.le_refl _, Nat.le_refl _⟩
  | succ m ih =>
    by_cases e : n = m + 1
    · rw [e]; exact ⟨Nat.le_refl _, Nat.le_refl _⟩
    · obtain ⟨a, b⟩ := ih (by omega)
      exact ⟨Nat.le_trans a (Nat.le_add_right _ _), Nat.le_trans b (Nat.le_add_right _ _)⟩
theorem hz_47 (kz : Nat → Nat) (n : Nat) : hz kz n 47 = gw (kz 47) n := upF_s
theorem paZ_h (kz : Nat → Nat) (n : Nat) : paZ (hz kz n) n = hz kz (n + 1) := by
  unfold paZ
  rw [hz_47]
  by_cases c : gw (kz 47) n = n
  · rw [if_pos c.symm]
    unfold hz
    rw [upF_up, show gw (kz 47) (n + 1) = 2 * gw (kz 47) n from if_pos c]
  · rw [if_neg (fun w => c w.symm)]
    unfold hz
    rw [show gw (kz 47) (n + 1) = gw (kz 47) n from if_neg c]
theorem paC_h (kz : Nat → Nat) (n : Nat) : gqC (kz 47) n + paC (hz kz n) n = gqC (kz 47) (n + 1) := by
  unfold paC
  rw [hz_47, gqC]
  by_cases c : gw (kz 47) n = n
  · rw [if_pos c, if_pos c.symm]
  · rw [if_neg c, if_neg (fun w => c w.symm)]
theorem paW_h (kz : Nat → Nat) (n : Nat) : gqZ (kz 47) n + paW (hz kz n) n = gqZ (kz 47) (n + 1) := by
  unfold paW
  rw [hz_47, gqZ]
  by_cases c : gw (kz 47) n = n
  · rw [if_pos c, if_pos c.symm]
  · rw [if_neg c, if_neg (fun w => c w.symm)]
/-- first parent and number of parents of each span -/
def fpP (S : MM) (z : Nat → Nat) (D : List (List (Nat × Nat))) (m : Nat) : Prop := (∀ j, j < m → eI S (z 43) j = nI (D.take j).flatten.length) ∧ ∀ j, j < D.length → eI S (z 42) j = nI (D.getD j []).length
section RGP
variable {Dk fk : List Nat} {S S1 S2 : MM} {F F1 F2 : Nat → Nat × Nat} {t r : Nat} {z z1 z2 : Nat → Nat} {Y : Nat → Nat → Nat} {R : Rb} {kz kz' : Nat → Nat} {A : List SpR} {PL : List (Nat × Nat)} {D : List (List (Nat × Nat))} {B : List Nat} {p q m : Nat}
theorem spP.rg (h : spP S1 t z1 kz A) (k : rG Dk fk S1 S2 F1 F2 t z1 z2) (hM : MD S1 F1 t z1 Y R kz') (hD : ∀ k, k ∈ Dk → k ∈ mdL) (h40 : 40 ∉ Dk) (h44 : 44 ∉ Dk) (h45 : 45 ∉ Dk) (hf : 1549 ∉ fk) : spP S2 t z2 kz A := ⟨(k.2.2.1 _ hf).trans h.1, h.2.1, fun j hj => by
  rw [k.zo h40, k.zo h44, k.zo h45, (k.row hM hD (j := 40) (by decide) h40).1, (k.row hM hD (j := 44) (by decide) h44).2.1, (k.row hM hD (j := 45) (by decide) h45).2.1]; exact h.2.2 j hj⟩
theorem paP.rg (h : paP S1 t z1 kz PL) (k : rG Dk fk S1 S2 F1 F2 t z1 z2) (hM : MD S1 F1 t z1 Y R kz') (hD : ∀ k, k ∈ Dk → k ∈ mdL) (h47 : 47 ∉ Dk) (h48 : 48 ∉ Dk) (hf : 1550 ∉ fk) : paP S2 t z2 kz PL := ⟨(k.2.2.1 _ hf).trans h.1, h.2.1, fun j hj => by
  rw [k.zo h47, k.zo h48, (k.row hM hD (j := 47) (by decide) h47).1, (k.row hM hD (j := 48) (by decide) h48).2.1]; exact h.2.2 j hj⟩
theorem fpP.rg (h : fpP S1 z1 D m) (k : rG Dk fk S1 S2 F1 F2 t z1 z2) (hM : MD S1 F1 t z1 Y R kz') (hD : ∀ k, k ∈ Dk → k ∈ mdL) (h42 : 42 ∉ Dk) (h43 : 43 ∉ Dk) : fpP S2 z2 D m := by
  have e1 := (k.row hM hD (j := 42) (by decide) h42).1
  have e2 := (k.row hM hD (j := 43) (by decide) h43).1
  unfold fpP
  rw [k.zo h42, k.zo h43, e1, e2]; exact h
theorem rdP9.rg (h : rdP9 S1 t r B p q) (k : rG Dk fk S1 S2 F1 F2 t z1 z2) (hM : MD S1 F1 t z1 Y R kz') (hD : ∀ k, k ∈ Dk → k ∈ mdL ∧ mdK k ≠ 16) (h35 : 1535 ∉ fk) (h36 : 1536 ∉ fk) : rdP9 S2 t r B p q := by
  obtain ⟨x1, x2, x3, x4, x5, x6⟩ := h
  have n34 : ∀ k, k ∈ mdL → 1534 ≠ 1500 + k := by decide
  exact ⟨(k.2.2.2.1 _ (fun j hj => n34 j (hD j hj).1)).trans x1, k.by hM x2 (fun j hj => x2.nz hM (hD j hj).1 (hD j hj).2), (k.2.2.1 _ h35).trans x3, (k.2.2.1 _ h36).trans x4, x5, x6⟩
end RGP
def paD : List Nat := [42, 43, 47, 48]
def pgF : List Nat := [1535, 1536, 1550]
def rpW (S S1 : MM) (F F1 : Nat → Nat × Nat) (t r : Nat) (z z1 : Nat → Nat) (Y : Nat → Nat → Nat) (R : Rb) (kz : Nat → Nat) (B L : List Nat) (A : List SpR) (p q : Nat) (D : List (List (Nat × Nat))) (PL : List (Nat × Nat)) (m : Nat) : Prop := MD S1 F1 t z1 Y R (hz kz PL.length) ∧ rG paD pgF S S1 F F1 t z z1 ∧ spP S1 t z1 kz A ∧ lsP S1 t z1 L ∧ rdP9 S1 t r B p q ∧ paP S1 t z1 (hz kz PL.length) PL ∧ fpP S1 z1 D m
section RPB
variable {S S1 S2 : MM} {F F1 F2 : Nat → Nat × Nat} {t r : Nat} {z z1 z2 : Nat → Nat} {Y : Nat → Nat → Nat} {R : Rb} {kz : Nat → Nat} {B L : List Nat} {A : List SpR} {p q p2 m m2 : Nat} {D D2 : List (List (Nat × Nat))} {PL : List (Nat × Nat)}
theorem rpW.nu (h : rpW S S1 F F1 t r z z1 Y R kz B L A p q D PL m) (hq : nuQ S1 S2 t B p q) : ∃ p', p ≤ p' ∧ p' ≤ q ∧ rpW S S2 F F1 t r z z1 Y R kz B L A p' q D PL m ∧ ∀ n, (vint B q p).1 = some n → p' = (vint B q p).2 := by
  obtain ⟨M1, hG, hA, hL, hR, hP, hF⟩ := h
  obtain ⟨p', a1, a2, rfl, a4⟩ := hq
  have k1 : rK [] [1535] S1 (sI S1 1535 t (nI p')) t z1 := rK.sf 1535 (nI p')
  have g1 : rG [] [1535] S1 (sI S1 1535 t (nI p')) F1 F1 t z1 z1 := k1.rg
  obtain ⟨x1, x2, x3, x4, x5, x6⟩ := hR
  refine ⟨p', a1, a2, ⟨k1.md M1 (fun k hk => by cases hk) (by decide), hG.tr (g1.mono (fun k hk => by cases hk) (by decide)), hA.rg g1 M1 (fun k hk => by cases hk) (by decide) (by decide) (by decide) (by decide), g1.ls M1 (fun k hk => by cases hk) (by decide) (by decide) hL, ⟨x1, k1.by M1 x2 (fun k hk => by cases hk), ?_, ?_, a2, x6⟩, hP.rg g1 M1 (fun k hk => by cases hk) (by decide) (by decide) (by decide), hF⟩, a4⟩
  · rw [mI_sI, if_pos ⟨rfl, rfl⟩]
  · rw [mI_sI, if_neg (fun e => absurd e.1 (by decide))]; exact x4
/-- a row of the spans' parents is written -/
theorem rpW.wr (h : rpW S S1 F F1 t r z z1 Y R kz B L A p q D PL m) {j : Nat} (hj : j = 42 ∨ j = 43) {v : Nat → Int32} (hfp : fpP (rI S1 (z1 j) v) z1 D2 m2) : rpW S (rI S1 (z1 j) v) F F1 t r z z1 Y R kz B L A p q D2 PL m2 := by
  obtain ⟨M1, hG, hA, hL, hR, hP, hF⟩ := h
  have k1 : rK [j] [] S1 (rI S1 (z1 j) v) t z1 := ⟨Keep.rI (P := fun c => c = t ∨ ∃ k, k ∈ [j] ∧ c = z1 k) Keep.rf (Or.inr ⟨j, List.mem_singleton.2 rfl, rfl⟩), fun _ _ => rfl, fun _ => rfl⟩
  have g1 : rG [j] [] S1 (rI S1 (z1 j) v) F1 F1 t z1 z1 := k1.rg
  have hm : ∀ k, k ∈ [j] → k ∈ mdL ∧ k ∉ mdP := fun k hk => by
    rw [List.mem_singleton.1 hk]
    rcases hj with e | e <;> subst e <;> decide
  have hm1 : ∀ k, k ∈ [j] → k ∈ mdL := fun k hk => (hm k hk).1
  have no : ∀ i, i ≠ 42 → i ≠ 43 → i ∉ [j] := fun i h1 h2 w => by
    rw [List.mem_singleton.1 w] at h1 h2
    omega
  refine ⟨k1.md M1 hm (fun f hf => by cases hf), hG.tr (g1.mono (fun k hk => ?_) (fun f hf => by cases hf)), hA.rg g1 M1 hm1 (no _ (by decide) (by decide)) (no _ (by decide) (by decide)) (no _ (by decide) (by decide)) (fun w => by cases w), g1.ls M1 hm1 (no _ (by decide) (by decide)) (fun w => by cases w) hL, hR.rg g1 M1 (fun k hk => ⟨hm1 k hk, ?_⟩) (fun w => by cases w) (fun w => by cases w), hP.rg g1 M1 hm1 (no _ (by decide) (by decide)) (no _ (by decide) (by decide)) (fun w => by cases w), hfp⟩
  · rw [List.mem_singleton.1 hk]
    rcases hj with e | e <;> subst e <;> decide
  · rw [List.mem_singleton.1 hk]
    rcases hj with e | e <;> subst e <;> decide
/-- one more parent -/
theorem rpW.pa (h : rpW S S1 F F1 t r z z1 Y R kz B L A p q D PL m) {x : Nat × Nat} (hM : MD S2 F2 t z2 Y R (paZ (hz kz PL.length) PL.length)) (hk : rG [47, 48] [1550] S1 S2 F1 F2 t z1 z2) (hp : paP S2 t z2 (paZ (hz kz PL.length) PL.length) (PL ++ [x])) : rpW S S2 F F2 t r z z2 Y R kz B L A p q D (PL ++ [x]) m := by
  obtain ⟨M1, hG, hA, hL, hR, hP, hF⟩ := h
  have el : (PL ++ [x]).length = PL.length + 1 := by rw [List.length_append]; rfl
  rw [paZ_h] at hM hp
  exact ⟨by rw [el]; exact hM, hG.tr (hk.mono (by decide) (by decide)), hA.rg hk M1 (by decide) (by decide) (by decide) (by decide) (by decide), hk.ls M1 (by decide) (by decide) (by decide) hL, hR.rg hk M1 (by decide) (by decide) (by decide), by rw [el]; exact hp, hF.rg hk M1 (by decide) (by decide) (by decide)⟩
end RPB
def rpF (B L : List Nat) (cA cE : Nat → Nat) (A : List SpR) (k p : Nat) (D : List (List (Nat × Nat))) : Prop := npa B L cA cE A = rdPq B L (cE 2) A k p D ∧ D.length + k = A.length ∧ D.flatten.length + cA 2 ≤ p
/-- the inner loop: W is what was read of the span -/
def rpJ (B L : List Nat) (cA cE : Nat → Nat) (A : List SpR) (k p j c : Nat) (D : List (List (Nat × Nat))) (W : List (Nat × Nat)) : Prop := (j < c → ∃ M, W = rsv L M ∧ npa B L cA cE A = rpE B L (cE 2) A k D (prX B (cE 2) L.length (c - j) M p)) ∧ (c ≤ j → npa B L cA cE A = rdPq B L (cE 2) A k p (D ++ [W])) ∧ D.length + k + 1 = A.length ∧ D.flatten.length + W.length + cA 2 ≤ p
theorem rpF.le {B L : List Nat} {cA cE : Nat → Nat} {A : List SpR} {k p : Nat} {D : List (List (Nat × Nat))} (h : rpF B L cA cE A k p D) (x : Nat) : gqC x D.flatten.length ≤ gqC x (npa B L cA cE A).2.1.flatten.length ∧ gqZ x D.flatten.length ≤ gqZ x (npa B L cA cE A).2.1.flatten.length := by
  refine gq_mono x ?_
  rw [h.1]
  exact rdPq_len
theorem rpJ.le {B L : List Nat} {cA cE : Nat → Nat} {A : List SpR} {k p j c : Nat} {D : List (List (Nat × Nat))} {W : List (Nat × Nat)} (h : rpJ B L cA cE A k p j c D W) : (D.flatten ++ W).length ≤ (npa B L cA cE A).2.1.flatten.length := by
  by_cases e : c ≤ j
  · rw [h.2.1 e, ← fl_1]; exact rdPq_len
  · obtain ⟨M, e1, e2⟩ := h.1 (by omega)
    rw [e2, List.length_append, e1, rsv, List.length_map]
    exact Nat.le_trans (Nat.add_le_add_left prX_len _) rpE_len
def I_rpa1 (t r : Nat) (F : Nat → Nat × Nat) (z : Nat → Nat) (Y : Nat → Nat → Nat) (R : Rb) (kz : Nat → Nat) (B L : List Nat) (cA cE : Nat → Nat) (A : List SpR) (S : MM) (k : Nat) : KT := fun lo st S1 cs sl => ∃ (k0 p : Nat) (D : List (List (Nat × Nat))) (F1 : Nat → Nat × Nat) (z1 : Nat → Nat), k = 100000 * k0 ∧ rpF B L cA cE A k0 p D ∧ rpW S S1 F F1 t r z z1 Y R kz B L A p (cE 2) D D.flatten D.length ∧ lo = [(0, .inr (.inr (some t))), (1, .inl (nI D.length))] ∧ st = [] ∧ cs = gqC (kz 47) D.flatten.length ∧ sl = gqZ (kz 47) D.flatten.length
def I_rpa2 (t r : Nat) (F : Nat → Nat × Nat) (z : Nat → Nat) (Y : Nat → Nat → Nat) (R : Rb) (kz : Nat → Nat) (B L : List Nat) (cA cE : Nat → Nat) (A : List SpR) (S : MM) (k : Nat) : KT := fun lo st S1 cs sl => ∃ (k0 p p1 : Nat) (D : List (List (Nat × Nat))) (F1 : Nat → Nat × Nat) (z1 : Nat → Nat), k = 100000 * k0 + 90000 ∧ rpF B L cA cE A (k0 + 1) p D ∧ (∀ n, (vint B (cE 2) p).1 = some n → p1 = (vint B (cE 2) p).2) ∧ rpW S S1 F F1 t r z z1 Y R kz B L A p1 (cE 2) D D.flatten (D.length + 1) ∧ lo = [(0, .inr (.inr (some t))), (1, .inl (nI D.length)), (2, .inr (.inl (oJ (vint B (cE 2) p).1)))] ∧ st = [] ∧ cs = gqC (kz 47) D.flatten.length ∧ sl = gqZ (kz 47) D.flatten.length
def I_rpa3 (t r : Nat) (F : Nat → Nat × Nat) (z : Nat → Nat) (Y : Nat → Nat → Nat) (R : Rb) (kz : Nat → Nat) (B L : List Nat) (cA cE : Nat → Nat) (A : List SpR) (S : MM) (k : Nat) : KT := fun lo st S1 cs sl => ∃ (k0 p : Nat) (D : List (List (Nat × Nat))) (F1 : Nat → Nat × Nat) (z1 : Nat → Nat), k = 100000 * k0 + 80000 ∧ rpF B L cA cE A (k0 + 1) p D ∧ (vint B (cE 2) p).1 = some 0 ∧ 0 < D.length ∧ rpW S S1 F F1 t r z z1 Y R kz B L A (vint B (cE 2) p).2 (cE 2) D D.flatten (D.length + 1) ∧ lo = [(0, .inr (.inr (some t))), (1, .inl (nI D.length)), (2, .inr (.inl (lN 0)))] ∧ st = [] ∧ cs = gqC (kz 47) D.flatten.length ∧ sl = gqZ (kz 47) D.flatten.length
def I_rpa4 (t r : Nat) (F : Nat → Nat × Nat) (z : Nat → Nat) (Y : Nat → Nat → Nat) (R : Rb) (kz : Nat → Nat) (B L : List Nat) (cA cE : Nat → Nat) (A : List SpR) (S : MM) (k : Nat) : KT := fun lo st S1 cs sl => ∃ (k0 p j c : Nat) (D : List (List (Nat × Nat))) (W : List (Nat × Nat)) (F1 : Nat → Nat × Nat) (z1 : Nat → Nat), k = 100000 * k0 + 1 + (cE 2 - p) ∧ c < 2147483648 ∧ j ≤ c + 1 ∧ rpJ B L cA cE A k0 p j c D W ∧ rpW S S1 F F1 t r z z1 Y R kz B L A p (cE 2) D (D.flatten ++ W) (D.length + 1) ∧ lo = [(0, .inr (.inr (some t))), (1, .inl (nI D.length)), (2, .inr (.inl (lN c))), (4, .inr (.inl (lN j)))] ∧ st = [] ∧ cs = gqC (kz 47) (D.flatten ++ W).length ∧ sl = gqZ (kz 47) (D.flatten ++ W).length
def prQ (S : MM) (t : Nat) (z : Nat → Nat) (kz : Nat → Nat) (D : List (List (Nat × Nat))) : Prop := paP S t z (hz kz D.flatten.length) D.flatten ∧ fpP S z D D.length
def T_rrpa : TR := fun Rc Rs av S cs sl K _Kx => match av with
  | [.inr (.inr t_o)] => pa t_o fun t => (∃ (F : Nat → Nat × Nat) (z : Nat → Nat) (Y : Nat → Nat → Nat) (R : Rb) (kz : Nat → Nat) (r : Nat) (B L : List Nat) (cA cE : Nat → Nat) (A : List SpR), (MD S F t z Y R kz ∧ rdC S t r z B cA cE ∧ lsP S t z L ∧ spP S t z kz A ∧ (∀ s, s ∈ A → s.1 < 256 ∧ s.2.1 < 2147483648 ∧ 1 ≤ s.2.2 ∧ s.2.2 ≤ 8192)) ∧ cs + (gqC (kz 47) (npa B L cA cE A).2.1.flatten.length) ≤ Rc ∧ sl + (gqZ (kz 47) (npa B L cA cE A).2.1.flatten.length) ≤ Rs ∧ (∀ (S' : MM), (∃ F' z', MD S' F' t z' Y R (hz kz (npa B L cA cE A).2.1.flatten.length) ∧ rG paD pgF S S' F F' t z z' ∧ lsP S' t z' L ∧ spP S' t z' kz A ∧ ((npa B L cA cE A).1 = true → (npa B L cA cE A).2.1.length = A.length ∧ prQ S' t z' kz (npa B L cA cE A).2.1)) → K (some (.inl (bI (decide ((npa B L cA cE A).1 = true ∧ (npa B L cA cE A).2.2 = cE 2))))) S' (cs + (gqC (kz 47) (npa B L cA cE A).2.1.flatten.length)) (sl + (gqZ (kz 47) (npa B L cA cE A).2.1.flatten.length))))
  | _ => False
def sp_rrpa (t : Nat) (F : Nat → Nat × Nat) (z : Nat → Nat) (Y : Nat → Nat → Nat) (R : Rb) (kz : Nat → Nat) (r : Nat) (B L : List Nat) (cA cE : Nat → Nat) (A : List SpR) : Sp := (fun av S => av = [.inr (.inr (some t))] ∧ (MD S F t z Y R kz ∧ rdC S t r z B cA cE ∧ lsP S t z L ∧ spP S t z kz A ∧ (∀ s, s ∈ A → s.1 < 256 ∧ s.2.1 < 2147483648 ∧ 1 ≤ s.2.2 ∧ s.2.2 ≤ 8192)), fun _ S => gqC (kz 47) (npa B L cA cE A).2.1.flatten.length, fun _ S => gqZ (kz 47) (npa B L cA cE A).2.1.flatten.length, fun _ S rv S' => rv = (some (.inl (bI (decide ((npa B L cA cE A).1 = true ∧ (npa B L cA cE A).2.2 = cE 2))))) ∧ (∃ F' z', MD S' F' t z' Y R (hz kz (npa B L cA cE A).2.1.flatten.length) ∧ rG paD pgF S S' F F' t z z' ∧ lsP S' t z' L ∧ spP S' t z' kz A ∧ ((npa B L cA cE A).1 = true → (npa B L cA cE A).2.1.length = A.length ∧ prQ S' t z' kz (npa B L cA cE A).2.1)), fun _ _ _ _ => False)
theorem rrpa_bad {t : Nat} {F : Nat → Nat × Nat} {z : Nat → Nat} {Y : Nat → Nat → Nat} {R : Rb} {kz : Nat → Nat} {r : Nat} {B L : List Nat} {cA cE : Nat → Nat} {A : List SpR} {S S2 : MM} {F2 : Nat → Nat × Nat} {z2 : Nat → Nat} {p q m : Nat} {D : List (List (Nat × Nat))} {PL : List (Nat × Nat)} (h : rpW S S2 F F2 t r z z2 Y R kz B L A p q D PL m) (h1 : (npa B L cA cE A).1 = false) (h2 : (npa B L cA cE A).2.1.flatten.length = PL.length) : ([] : List MV) = [] ∧ mret (some .boolean) (sp_rrpa t F z Y R kz r B L cA cE A) [.inr (.inr (some t))] S (some (.inl (0 : Int32))) S2 (gqC (kz 47) PL.length) (gqZ (kz 47) PL.length) := by
  refine ⟨rfl, rt0, ⟨by rw [h1]; rfl, F2, z2, ?_, h.2.1, h.2.2.2.1, h.2.2.1, fun w => by rw [h1] at w; cases w⟩, ?_, ?_⟩
  · rw [h2]; exact h.1
  · show gqC (kz 47) PL.length ≤ gqC (kz 47) (npa B L cA cE A).2.1.flatten.length
    rw [h2]; exact Nat.le_refl _
  · show gqZ (kz 47) PL.length ≤ gqZ (kz 47) (npa B L cA cE A).2.1.flatten.length
    rw [h2]; exact Nat.le_refl _
def tX14_readParents : CD := [(0, .aload_n 0), (1, .iconst 2), (2, .invokevirtual 458), (5, .aload_n 0), (6, .iconst 0), (7, .putfield 482), (10, .iconst 0), (11, .istore_n 1), (12, .iload_n 1), (13, .aload_n 0), (14, .getfield 467), (17, .if_icmp .ge 159), (20, .aload_n 0), (21, .invokevirtual 431), (24, .lstore_n 2), (25, .aload_n 0), (26, .getfield 112), (29, .iload_n 1), (30, .aload_n 0), (31, .getfield 482), (34, .iastore), (35, .lload_n 2), (36, .lconst 0), (37, .lcmp), (38, .ifCond .lt 13), (41, .lload_n 2), (42, .lconst 0), (43, .lcmp), (44, .ifCond .ne 9), (47, .iload_n 1), (48, .ifCond .ne 5), (51, .iconst 0), (52, .ireturn), (53, .lload_n 2), (54, .lconst 0), (55, .lcmp), (56, .ifCond .ne 34), (59, .aload_n 0), (60, .aload_n 0), (61, .getfield 103), (64, .iload_n 1), (65, .iconst 1), (66, .isub), (67, .iaload), (68, .aload_n 0), (69, .getfield 115), (72, .iload_n 1), (73, .iconst 1), (74, .isub), (75, .laload), (76, .aload_n 0), (77, .getfield 119), (80, .iload_n 1), (81, .iconst 1), (82, .isub), (83, .laload), (84, .ladd), (85, .lconst 1), (86, .lsub), (87, .invokevirtual 485), (90, .lconst 1), (91, .lstore 4), (93, .lload 4), (95, .lload_n 2), (96, .lcmp), (97, .ifCond .ge 56), (100, .aload_n 0), (101, .aload_n 0), (102, .invokevirtual 431), (105, .invokevirtual 470), (108, .istore 6), (110, .iload 6), (112, .ifCond .ge 9), (115, .ldc2_w 404), (118, .goto 7), (121, .aload_n 0), (122, .invokevirtual 431), (125, .lstore 7), (127, .lload 7), (129, .lconst 0), (130, .lcmp), (131, .ifCond .ge 5), (134, .iconst 0), (135, .ireturn), (136, .aload_n 0), (137, .iload 6), (139, .lload 7), (141, .invokevirtual 485), (144, .lload 4), (146, .lconst 1), (147, .ladd), (148, .lstore 4), (150, .goto (-57)), (153, .aload_n 0), (154, .getfield 109), (157, .iload_n 1), (158, .aload_n 0), (159, .getfield 482), (162, .aload_n 0), (163, .getfield 112), (166, .iload_n 1), (167, .iaload), (168, .isub), (169, .iastore), (170, .iinc 1 1), (173, .goto (-161)), (176, .aload_n 0), (177, .getfield 398), (180, .aload_n 0), (181, .getfield 401), (184, .if_icmp .ne 7), (187, .iconst 1), (188, .goto 4), (191, .iconst 0), (192, .ireturn)]
set_option maxRecDepth 100000 in
theorem kX14_readParents : chk cX14_readParents tX14_readParents = true := by decide +kernel
theorem vX14_readParents_458 : ∀ w ∈ ([.methodLink RX14 458 yX14_enter, .instanceMethod yX14_enter, .selects yX14_enter.cls yX14_enter yX14_enter, .initialized yX14_enter.cls, .code yX14_enter cX14_enter 2 none] : List Cond), w ∈ lw_good := List.forall_mem_cons.mpr ⟨mgd 2361 (by decide +kernel) (by decide +kernel), List.forall_mem_cons.mpr ⟨mgd 2363 (by decide +kernel) (by decide +kernel), List.forall_mem_cons.mpr ⟨mgd 103 (by decide +kernel) (by decide +kernel), List.forall_mem_cons.mpr ⟨mgd 136 (by decide +kernel) (by decide +kernel), List.forall_mem_cons.mpr ⟨mgd 2364 (by decide +kernel) (by decide +kernel), fun _ h => absurd h List.not_mem_nil⟩⟩⟩⟩⟩
theorem vX14_readParents_431 : ∀ w ∈ ([.methodLink RX14 431 yX14_number, .instanceMethod yX14_number, .selects yX14_number.cls yX14_number yX14_number, .initialized yX14_number.cls, .code yX14_number cX14_number 5 (some .long)] : List Cond), w ∈ lw_good := List.forall_mem_cons.mpr ⟨mgd 2346 (by decide +kernel) (by decide +kernel), List.forall_mem_cons.mpr ⟨mgd 2348 (by decide +kernel) (by decide +kernel), List.forall_mem_cons.mpr ⟨mgd 100 (by decide +kernel) (by decide +kernel), List.forall_mem_cons.mpr ⟨mgd 136 (by decide +kernel) (by decide +kernel), List.forall_mem_cons.mpr ⟨mgd 2349 (by decide +kernel) (by decide +kernel), fun _ h => absurd h List.not_mem_nil⟩⟩⟩⟩⟩
theorem vX14_readParents_485 : ∀ w ∈ ([.methodLink RX14 485 yX14_parent, .instanceMethod yX14_parent, .selects yX14_parent.cls yX14_parent yX14_parent, .initialized yX14_parent.cls, .code yX14_parent cX14_parent 4 none] : List Cond), w ∈ lw_good := List.forall_mem_cons.mpr ⟨mgd 2397 (by decide +kernel) (by decide +kernel), List.forall_mem_cons.mpr ⟨mgd 2399 (by decide +kernel) (by decide +kernel), List.forall_mem_cons.mpr ⟨mgd 109 (by decide +kernel) (by decide +kernel), List.forall_mem_cons.mpr ⟨mgd 136 (by decide +kernel) (by decide +kernel), List.forall_mem_cons.mpr ⟨mgd 2400 (by decide +kernel) (by decide +kernel), fun _ h => absurd h List.not_mem_nil⟩⟩⟩⟩⟩
theorem vX14_readParents_470 : ∀ w ∈ ([.methodLink RX14 470 yX14_agentOf, .instanceMethod yX14_agentOf, .selects yX14_agentOf.cls yX14_agentOf yX14_agentOf, .initialized yX14_agentOf.cls, .code yX14_agentOf cX14_agentOf 3 (some .int)] : List Cond), w ∈ lw_good := List.forall_mem_cons.mpr ⟨mgd 2376 (by decide +kernel) (by decide +kernel), List.forall_mem_cons.mpr ⟨mgd 2378 (by decide +kernel) (by decide +kernel), List.forall_mem_cons.mpr ⟨mgd 106 (by decide +kernel) (by decide +kernel), List.forall_mem_cons.mpr ⟨mgd 136 (by decide +kernel) (by decide +kernel), List.forall_mem_cons.mpr ⟨mgd 2379 (by decide +kernel) (by decide +kernel), fun _ h => absurd h List.not_mem_nil⟩⟩⟩⟩⟩
set_option maxRecDepth 100000 in
set_option maxHeartbeats 2000000 in
theorem c_rrpa (l : Launch) : ∀ (t : Nat) (F : Nat → Nat × Nat) (z : Nat → Nat) (Y : Nat → Nat → Nat) (R : Rb) (kz : Nat → Nat) (r : Nat) (B L : List Nat) (cA cE : Nat → Nat) (A : List SpR), Ct l yX14_readParents cX14_readParents 9 (some .boolean) 3 77 (sp_rrpa t F z Y R kz r B L cA cE A) := by
  intro t F z Y R kz r B L cA cE A
  refine Ct.of (fX14, nX14, aX14, iX14, lX14, [(458, 0, 2, 0, T_rent), (431, 0, 1, 2, T_rnum), (485, 0, 3, 0, T_rpar), (470, 0, 2, 1, T_rago)], qX14, gX14, []) false tX14_readParents (fun _ S => look [(12, ([0,1], I_rpa1 t r F z Y R kz B L cA cE A S)), (35, ([0,1,2], I_rpa2 t r F z Y R kz B L cA cE A S)), (59, ([0,1,2], I_rpa3 t r F z Y R kz B L cA cE A S)), (93, ([0,1,2,4], I_rpa4 t r F z Y R kz B L cA cE A S))]) (by decide) (by decide) kX14_readParents ⟨_, _, rfl⟩ fX14_ok nX14_ok aX14_ok iX14_ok lX14_ok (fun p e R s m args below meth c Q D cy z r A C hR1 hR2 => List.forall_mem_cons.mpr ⟨cOK_use (fun _ _ _ _ _ _ _ _ h => let ⟨sp, h1, h2, h3⟩ := u_rent l _ _ _ _ _ _ _ _ h; ⟨sp, cOK_V C h1 vX14_readParents_458 ⟨by decide, by decide, by decide +kernel⟩ ⟨by rw [hR1]; decide, by rw [hR2]; decide⟩ (k := 15) (T := TX14) (N := 52) rfl (by decide) h2, h3⟩), List.forall_mem_cons.mpr ⟨cOK_use (fun _ _ _ _ _ _ _ _ h => let ⟨sp, h1, h2, h3⟩ := u_rnum l _ _ _ _ _ _ _ _ h; ⟨sp, cOK_V C h1 vX14_readParents_431 ⟨by decide, by decide, by decide +kernel⟩ ⟨by rw [hR1]; decide, by rw [hR2]; decide⟩ (k := 15) (T := TX14) (N := 52) rfl (by decide) h2, h3⟩), List.forall_mem_cons.mpr ⟨cOK_use (fun _ _ _ _ _ _ _ _ h => let ⟨sp, h1, h2, h3⟩ := u_rpar l _ _ _ _ _ _ _ _ h; ⟨sp, cOK_V C h1 vX14_readParents_485 ⟨by decide, by decide, by decide +kernel⟩ ⟨by rw [hR1]; decide, by rw [hR2]; decide⟩ (k := 15) (T := TX14) (N := 52) rfl (by decide) h2, h3⟩), List.forall_mem_cons.mpr ⟨cOK_use (fun _ _ _ _ _ _ _ _ h => let ⟨sp, h1, h2, h3⟩ := u_rago l _ _ _ _ _ _ _ _ h; ⟨sp, cOK_V C h1 vX14_readParents_470 ⟨by decide, by decide, by decide +kernel⟩ ⟨by rw [hR1]; decide, by rw [hR2]; decide⟩ (k := 15) (T := TX14) (N := 52) rfl (by decide) h2, h3⟩), fun _ h => absurd h List.not_mem_nil⟩⟩⟩⟩) qX14_ok gX14_ok rfl ?_ ?_
  · rintro _ S ⟨rfl, hp⟩
    refine ⟨Nat.le_of_ble_eq_true rfl, 300, ?_⟩
    show (0 = 0 ∧ (∃ (c_1 : Nat), (2 : Int32) = nI c_1 ∧ (∃ (F_2 : Nat → Nat × Nat) (z_3 : Nat → Nat) (Y_4 : Nat → Nat → Nat) (R_5 : Rb) (kz_6 : Nat → Nat) (cA_7 cE_8 : Nat → Nat), (MD S F_2 t z_3 Y_4 R_5 kz_6 ∧ coP S z_3 cA_7 cE_8 ∧ c_1 < 5) ∧ 0 ≤ gqC (kz 47) (npa B L cA cE A).2.1.flatten.length ∧ 0 ≤ gqZ (kz 47) (npa B L cA cE A).2.1.flatten.length ∧ ((True ∧ (isO (sI (sI S 1535 t (nI (cA_7 c_1))) 1536 t (nI (cE_8 c_1))) 15 t ∧ (∃ k1, I_rpa1 t r F z Y R kz B L cA cE A S k1 [(0, .inr (.inr (some t))), (1, .inl (0 : Int32))] [] (sI (sI (sI S 1535 t (nI (cA_7 c_1))) 1536 t (nI (cE_8 c_1))) 1550 t (0 : Int32)) 0 0)))))))
    obtain ⟨hM, ⟨r1, r2, hC, hc⟩, hL, hA, hAA⟩ := hp
    obtain ⟨c1, c2⟩ := hc 2 (by decide)
    have k3 : rK [] pgF S (sI (sI (sI S 1535 t (nI (cA 2))) 1536 t (nI (cE 2))) 1550 t 0) t z := (((rK.sf 1535 (nI (cA 2))).mono (fun k hk => by cases hk) (by decide)).tr ((rK.sf 1536 (nI (cE 2))).mono (fun k hk => by cases hk) (by decide))).tr ((rK.sf 1550 0).mono (fun k hk => by cases hk) (by decide))
    have g3 : rG [] pgF S (sI (sI (sI S 1535 t (nI (cA 2))) 1536 t (nI (cE 2))) 1550 t 0) F F t z z := k3.rg
    have e0 : hz kz ([] : List (List (Nat × Nat))).flatten.length = kz := upF_id kz 47
    refine ⟨rfl, 2, rfl, F, z, Y, R, kz, cA, cE, ⟨hM, hC, by decide⟩, Nat.zero_le _, Nat.zero_le _, trivial, (hM 0).1, 100000 * A.length, A.length, cA 2, [], F, z, rfl, ⟨rfl, Nat.zero_add _, Nat.le_of_eq (Nat.zero_add _)⟩, ⟨by rw [e0]; exact k3.md hM (fun k hk => by cases hk) (by decide), g3.mono (fun k hk => by cases hk) (fun f hf => hf), hA.rg g3 hM (fun k hk => by cases hk) (by decide) (by decide) (by decide) (by decide), g3.ls hM (fun k hk => by cases hk) (by decide) (by decide) hL, ⟨r1, k3.by hM r2 (fun k hk => by cases hk), ?_, ?_, c1, c2⟩, ⟨by rw [mI_sI, if_pos ⟨rfl, rfl⟩]; rfl, Nat.zero_le _, fun j hj => absurd hj (Nat.not_lt_zero j)⟩, ⟨fun j hj => absurd hj (Nat.not_lt_zero j), fun j hj => absurd hj (Nat.not_lt_zero j)⟩⟩, rfl, rfl, rfl, rfl⟩
    · rw [mI_sI, if_neg (fun e => absurd e.1 (by decide)), mI_sI, if_neg (fun e => absurd e.1 (by decide)), mI_sI, if_pos ⟨rfl, rfl⟩]
    · rw [mI_sI, if_neg (fun e => absurd e.1 (by decide)), mI_sI, if_pos ⟨rfl, rfl⟩]
  · intro av S hpre pc I hI k lo st S1 cs sl h
    obtain ⟨rfl, hp⟩ := hpre
    have hm := look_in hI
    simp only [List.mem_cons, List.not_mem_nil, or_false] at hm
    rcases hm with hm | hm | hm | hm
    · cases hm
      obtain ⟨k0, p, D, F1, z1, rfl, hF, hB, rfl, rfl, rfl, rfl⟩ := h
      refine ⟨300, ?_⟩
      show (isO S1 15 t ∧ (((mI S1 1549 t) ≤ (nI D.length) → (isO S1 15 t ∧ (isO S1 15 t ∧ ((¬ (mI S1 1535 t) = (mI S1 1536 t) → (([] : List MV) = [] ∧ mret (some .boolean) (sp_rrpa t F z Y R kz r B L cA cE A) [.inr (.inr (some t))] S (some (.inl (0 : Int32))) S1 (gqC (kz 47) D.flatten.length) (gqZ (kz 47) D.flatten.length))) ∧ ((mI S1 1535 t) = (mI S1 1536 t) → (([] : List MV) = [] ∧ mret (some .boolean) (sp_rrpa t F z Y R kz r B L cA cE A) [.inr (.inr (some t))] S (some (.inl (1 : Int32))) S1 (gqC (kz 47) D.flatten.length) (gqZ (kz 47) D.flatten.length))))))) ∧ (¬ (mI S1 1549 t) ≤ (nI D.length) → (0 = 0 ∧ (∃ (F_1 : Nat → Nat × Nat) (z_2 : Nat → Nat) (Y_3 : Nat → Nat → Nat) (R_4 : Rb) (kz_5 : Nat → Nat) (r_6 : Nat) (B_7 : List Nat) (p_8 q_9 : Nat), (MD S1 F_1 t z_2 Y_3 R_4 kz_5 ∧ rdP9 S1 t r_6 B_7 p_8 q_9) ∧ gqC (kz 47) D.flatten.length ≤ gqC (kz 47) (npa B L cA cE A).2.1.flatten.length ∧ gqZ (kz 47) D.flatten.length ≤ gqZ (kz 47) (npa B L cA cE A).2.1.flatten.length ∧ (∀ (S_10 : MM), (nuQ S1 S_10 t B_7 p_8 q_9) → (isO S_10 15 t ∧ (isO S_10 15 t ∧ (pa (mR S_10 1543 t) fun a_11 => isO S_10 17 a_11 ∧ inR S_10 a_11 (nI D.length) ∧ (∃ k1, k1 < 100000 * k0 ∧ I_rpa2 t r F z Y R kz B L cA cE A S k1 [(0, .inr (.inr (some t))), (1, .inl (nI D.length)), (2, .inr (.inl (oJ (vint B_7 q_9 p_8).1)))] [] (rI S_10 a_11 (upd (eI S_10 a_11) (nI D.length).toNatClampNeg (mI S_10 1550 t))) (gqC (kz 47) D.flatten.length) (gqZ (kz 47) D.flatten.length)))))))))))
      obtain ⟨hM, ⟨r1, r2, hC, hc⟩, hL0, hA0, hAA⟩ := hp
      obtain ⟨b1, b2⟩ := hF.le (kz 47)
      obtain ⟨M1, hG, hA, hL, ⟨x1, x2, x3, x4, x5, x6⟩, hP, hfp⟩ := id hB
      have hB8 : B.length ≤ 32768 := r2.2.2.1
      have hk40 := (M1 11).2.2.2.1
      have hk40 : kz 40 ≤ 131072 := hk40
      have hAl := hA.2.1
      obtain ⟨e1, hDk, hDp⟩ := id hF
      rw [hA.1, x3, x4]
      refine ⟨(M1 0).1, if_le (by omega) (by omega) (fun w => ?_) (fun w => ?_)⟩
      · have k00 : k0 = 0 := by omega
        subst k00
        have en : npa B L cA cE A = (true, D, p) := e1
        refine ⟨(M1 0).1, (M1 0).1, if_ne (by omega) (by omega) (fun w2 => ?_) (fun w2 => ?_)⟩
        · exact ⟨rfl, rt0, ⟨by rw [en, decide_eq_false (fun q => w2 q.2)]; rfl, F1, z1, by rw [en]; exact M1, hG, hL, hA, fun _ => by rw [en]; exact ⟨by show D.length = A.length; omega, hP, hfp⟩⟩, b1, b2⟩
        · exact ⟨rfl, rt1, ⟨by rw [en, decide_eq_true ⟨rfl, w2⟩]; rfl, F1, z1, by rw [en]; exact M1, hG, hL, hA, fun _ => by rw [en]; exact ⟨by show D.length = A.length; omega, hP, hfp⟩⟩, b1, b2⟩
      · obtain ⟨k0, rfl⟩ : ∃ k', k0 = k' + 1 := ⟨k0 - 1, by omega⟩
        refine ⟨rfl, F1, z1, Y, R, hz kz D.flatten.length, r, B, p, cE 2, ⟨M1, x1, x2, x3, x4, x5, x6⟩, b1, b2, fun S10 hq => ?_⟩
        obtain ⟨p', a1, a2, hB2, hp'⟩ := hB.nu hq
        have M2 := hB2.1
        have r43 := M2 1 43 (by decide)
        have n43 : mN S10 (z1 43) = kz 40 := r43.2.2.2
        have e50 : mI S10 1550 t = nI D.flatten.length := hB2.2.2.2.2.2.1.1
        have cl : (nI D.length).toNatClampNeg = D.length := nI_clamp (by omega)
        refine ⟨(M2 0).1, (M2 0).1, pa_i r43.1 ⟨r43.2.2.1, inRn n43 (by omega) (by omega), 100000 * k0 + 90000, by omega, k0, p, p', D, F1, z1, rfl, hF, hp', hB2.wr (j := 43) (Or.inr rfl) ⟨fun j hj => ?_, fun j hj => ?_⟩, rfl, rfl, rfl, rfl⟩⟩
        · rw [eI_rI, if_pos rfl, cl, e50, upd]
          by_cases c : j = D.length
          · rw [if_pos c, c, List.take_length]
          · rw [if_neg c]; exact hB2.2.2.2.2.2.2.1 j (by omega)
        · have hne : z1 42 ≠ z1 43 := rK.nz M2 (by decide) (by decide) (by decide)
          rw [eI_rI, if_neg hne]; exact hB2.2.2.2.2.2.2.2 j hj
    · cases hm
      obtain ⟨k0, p, p1, D, F1, z1, rfl, hF, hp1, hB, rfl, rfl, rfl, rfl⟩ := h
      refine ⟨300, ?_⟩
      show (((lg_cmp (oJ (vint B (cE 2) p).1) (0 : Int64)) < 0 → (([] : List MV) = [] ∧ mret (some .boolean) (sp_rrpa t F z Y R kz r B L cA cE A) [.inr (.inr (some t))] S (some (.inl (0 : Int32))) S1 (gqC (kz 47) D.flatten.length) (gqZ (kz 47) D.flatten.length))) ∧ (¬ (lg_cmp (oJ (vint B (cE 2) p).1) (0 : Int64)) < 0 → ((¬ (lg_cmp (oJ (vint B (cE 2) p).1) (0 : Int64)) = 0 → ((¬ (lg_cmp (oJ (vint B (cE 2) p).1) (0 : Int64)) = 0 → (∃ k1, k1 < 100000 * k0 + 90000 ∧ I_rpa4 t r F z Y R kz B L cA cE A S k1 [(0, .inr (.inr (some t))), (1, .inl (nI D.length)), (2, .inr (.inl (oJ (vint B (cE 2) p).1))), (4, .inr (.inl (1 : Int64)))] [] S1 (gqC (kz 47) D.flatten.length) (gqZ (kz 47) D.flatten.length))) ∧ ((lg_cmp (oJ (vint B (cE 2) p).1) (0 : Int64)) = 0 → (∃ k1, k1 < 100000 * k0 + 90000 ∧ I_rpa3 t r F z Y R kz B L cA cE A S k1 [(0, .inr (.inr (some t))), (1, .inl (nI D.length)), (2, .inr (.inl (oJ (vint B (cE 2) p).1)))] [] S1 (gqC (kz 47) D.flatten.length) (gqZ (kz 47) D.flatten.length))))) ∧ ((lg_cmp (oJ (vint B (cE 2) p).1) (0 : Int64)) = 0 → ((¬ (nI D.length) = 0 → ((¬ (lg_cmp (oJ (vint B (cE 2) p).1) (0 : Int64)) = 0 → (∃ k1, k1 < 100000 * k0 + 90000 ∧ I_rpa4 t r F z Y R kz B L cA cE A S k1 [(0, .inr (.inr (some t))), (1, .inl (nI D.length)), (2, .inr (.inl (oJ (vint B (cE 2) p).1))), (4, .inr (.inl (1 : Int64)))] [] S1 (gqC (kz 47) D.flatten.length) (gqZ (kz 47) D.flatten.length))) ∧ ((lg_cmp (oJ (vint B (cE 2) p).1) (0 : Int64)) = 0 → (∃ k1, k1 < 100000 * k0 + 90000 ∧ I_rpa3 t r F z Y R kz B L cA cE A S k1 [(0, .inr (.inr (some t))), (1, .inl (nI D.length)), (2, .inr (.inl (oJ (vint B (cE 2) p).1)))] [] S1 (gqC (kz 47) D.flatten.length) (gqZ (kz 47) D.flatten.length))))) ∧ ((nI D.length) = 0 → (([] : List MV) = [] ∧ mret (some .boolean) (sp_rrpa t F z Y R kz r B L cA cE A) [.inr (.inr (some t))] S (some (.inl (0 : Int32))) S1 (gqC (kz 47) D.flatten.length) (gqZ (kz 47) D.flatten.length))))))))
      obtain ⟨hM, ⟨r1, r2, hC, hc⟩, hL0, hA0, hAA⟩ := hp
      obtain ⟨M1, hG, hA, hL, hR, hP, hfp⟩ := id hB
      have hB8 : B.length ≤ 32768 := r2.2.2.1
      have hk40 := (M1 11).2.2.2.1
      have hk40 : kz 40 ≤ 131072 := hk40
      have hAl := hA.2.1
      obtain ⟨e1, hDk, hDp⟩ := id hF
      have hc2 := hc 2 (by decide)
      cases hv : (vint B (cE 2) p).1 with
      | none =>
        rw [rdPq_1 hv] at e1
        exact ⟨fun _ => rrpa_bad hB (by rw [e1]) (by rw [e1]), fun q => absurd (by decide) q⟩
      | some c =>
        have hlt := vint_lt r2.2.2.2.1 hv
        have hgt := vint_gt hv
        have hp9 := hp1 c hv
        have hn0 : ¬ lg_cmp (oJ (some c)) 0 < 0 := fun q => by
          have := (oJ_lt (o := some c) (fun m e => by cases e; exact hlt)).1 q
          cases this
        have h0 : lg_cmp (oJ (some c)) 0 = 0 ↔ c = 0 := (lgc (a := c) (b := 0) (by omega) (by decide)).2
        have go4 : c ≠ 0 → ∃ k1, k1 < 100000 * k0 + 90000 ∧ I_rpa4 t r F z Y R kz B L cA cE A S k1 [(0, .inr (.inr (some t))), (1, .inl (nI D.length)), (2, .inr (.inl (oJ (some c)))), (4, .inr (.inl (1 : Int64)))] [] S1 (gqC (kz 47) D.flatten.length) (gqZ (kz 47) D.flatten.length) := fun c0 => by
          have e2 := e1.trans (rdPq_4 hv c0)
          refine ⟨100000 * k0 + 1 + (cE 2 - p1), by omega, k0, p1, 1, c, D, [], F1, z1, rfl, hlt, by omega, ⟨fun _ => ⟨[], rfl, by rw [hp9]; exact e2⟩, fun h1 => ?_, by omega, by show D.flatten.length + 0 + cA 2 ≤ p1; omega⟩, by rw [List.append_nil]; exact hB, rfl, rfl, by rw [List.append_nil], by rw [List.append_nil]⟩
          have c1 : c = 1 := by omega
          subst c1
          rw [e2, hp9]; rfl
        refine ⟨fun q => absurd q hn0, fun _ => ⟨fun q => ⟨fun _ => go4 (fun w => q (h0.2 w)), fun q2 => absurd q2 q⟩, fun q => ?_⟩⟩
        have c0 : c = 0 := h0.1 q
        subst c0
        refine if_ne (b := 0) (by omega) (by decide) (fun w => ⟨fun q2 => absurd q q2, fun _ => ⟨100000 * k0 + 80000, by omega, k0, p, D, F1, z1, rfl, hF, hv, by omega, by rw [← hp9]; exact hB, rfl, rfl, rfl, rfl⟩⟩) (fun w => ?_)
        rw [rdPq_2 hv w] at e1
        exact rrpa_bad hB (by rw [e1]) (by rw [e1])
    · cases hm
      obtain ⟨k0, p, D, F1, z1, rfl, hF, hv, hD0, hB, rfl, rfl, rfl, rfl⟩ := h
      refine ⟨300, ?_⟩
      show (isO S1 15 t ∧ (pa (mR S1 1540 t) fun a_1 => ∃ v_2 : Int32, (isO S1 17 a_1 ∧ inR S1 a_1 ((nI D.length) - (1 : Int32)) ∧ v_2 = eI S1 a_1 ((nI D.length) - (1 : Int32)).toNatClampNeg ∨ a_1 = (mQ S1).1 ∧ vp_in ((nI D.length) - (1 : Int32)) 16 ∧ v_2 = mRem ((nI D.length) - (1 : Int32)).toNatClampNeg) ∧ (isO S1 15 t ∧ (pa (mR S1 1544 t) fun a_3 => isO S1 18 a_3 ∧ inR S1 a_3 ((nI D.length) - (1 : Int32)) ∧ (isO S1 15 t ∧ (pa (mR S1 1545 t) fun a_4 => isO S1 18 a_4 ∧ inR S1 a_4 ((nI D.length) - (1 : Int32)) ∧ (0 = 0 ∧ (∃ (a_5 : Nat), v_2 = nI a_5 ∧ (∃ (F_6 : Nat → Nat × Nat) (z_7 : Nat → Nat) (Y_8 : Nat → Nat → Nat) (R_9 : Rb) (kz_10 : Nat → Nat) (PL_11 : List (Nat × Nat)) (x_12 : Nat), (MD S1 F_6 t z_7 Y_8 R_9 kz_10 ∧ paP S1 t z_7 kz_10 PL_11 ∧ PL_11.length ≤ 65536 ∧ (((eJ S1 a_3 ((nI D.length) - (1 : Int32)).toNatClampNeg) + (eJ S1 a_4 ((nI D.length) - (1 : Int32)).toNatClampNeg)) - (1 : Int64)) = lN x_12) ∧ gqC (kz 47) D.flatten.length + (paC kz_10 PL_11.length) ≤ gqC (kz 47) (npa B L cA cE A).2.1.flatten.length ∧ gqZ (kz 47) D.flatten.length + (paW kz_10 PL_11.length) ≤ gqZ (kz 47) (npa B L cA cE A).2.1.flatten.length ∧ (∀ (S_13 : MM), (∃ F' z', MD S_13 F' t z' Y_8 R_9 (paZ kz_10 PL_11.length) ∧ rG [47, 48] [1550] S1 S_13 F_6 F' t z_7 z' ∧ paP S_13 t z' (paZ kz_10 PL_11.length) (PL_11 ++ [(a_5, x_12)])) → (∃ k1, k1 < 100000 * k0 + 80000 ∧ I_rpa4 t r F z Y R kz B L cA cE A S k1 [(0, .inr (.inr (some t))), (1, .inl (nI D.length)), (2, .inr (.inl (lN 0))), (4, .inr (.inl (1 : Int64)))] [] S_13 (gqC (kz 47) D.flatten.length + (paC kz_10 PL_11.length)) (gqZ (kz 47) D.flatten.length + (paW kz_10 PL_11.length)))))))))))))
      obtain ⟨hM, ⟨r1, r2, hC, hc⟩, hL0, hA0, hAA⟩ := hp
      obtain ⟨M1, hG, hA, hL, hR, hP, hfp⟩ := id hB
      have hB8 : B.length ≤ 32768 := r2.2.2.1
      have hk40 := (M1 11).2.2.2.1
      have hk40 : kz 40 ≤ 131072 := hk40
      have hAl := hA.2.1
      obtain ⟨e1, hDk, hDp⟩ := id hF
      have hgt := vint_gt hv
      have hc2 := hc 2 (by decide)
      have r40 := M1 1 40 (by decide)
      have r44 := M1 1 44 (by decide)
      have r45 := M1 1 45 (by decide)
      have n40 : mN S1 (z1 40) = kz 40 := r40.2.2.2
      have n44 : mN S1 (z1 44) = kz 40 := r44.2.2.2
      have n45 : mN S1 (z1 45) = kz 40 := r45.2.2.2
      have es : nI D.length - 1 = nI (D.length - 1) := pk_sub (b := 1) hD0
      have cl : (nI (D.length - 1)).toNatClampNeg = D.length - 1 := nI_clamp (by omega)
      have hj : D.length - 1 < A.length := by omega
      obtain ⟨s1, s2, s3⟩ := hA.2.2 (D.length - 1) hj
      have hm : A.getD (D.length - 1) (0, 0, 0) ∈ A := by
        rw [List.getD_eq_getElem?_getD, List.getElem?_eq_getElem hj]
        exact List.getElem_mem hj
      obtain ⟨t1, t2, t3, t4⟩ := hAA _ hm
      have e3 := e1.trans (rdPq_3 hv (by omega))
      have hJ : rpJ B L cA cE A k0 (vint B (cE 2) p).2 1 0 D [pvS A D.length] := ⟨fun w => absurd w (by decide), fun _ => e3, by omega, by show D.flatten.length + 1 + cA 2 ≤ _; omega⟩
      obtain ⟨d1, d2⟩ := gq_mono (kz 47) hJ.le
      have el : (D.flatten ++ [pvS A D.length]).length = D.flatten.length + 1 := by rw [List.length_append]; rfl
      rw [el] at d1 d2
      rw [es]
      refine ⟨(M1 0).1, rdI (v := nI (A.getD (D.length - 1) (0, 0, 0)).1) r40.1 r40.2.2.1 (inRn n40 (by omega) (by omega)) (by rw [cl]; exact s1) ⟨(M1 0).1, pa_i r44.1 ⟨r44.2.2.1, inRn n44 (by omega) (by omega), (M1 0).1, pa_i r45.1 ⟨r45.2.2.1, inRn n45 (by omega) (by omega), rfl, _, rfl, F1, z1, Y, R, hz kz D.flatten.length, D.flatten, (pvS A D.length).2, ⟨M1, hP, by omega, ?_⟩, by rw [paC_h]; exact d1, by rw [paW_h]; exact d2, fun S24 h => ?_⟩⟩⟩⟩
      · rw [cl, s2, s3, lN_plus]
        exact lN_mi (b := 1) (by omega)
      · obtain ⟨F2, z2, m1, m2, m3⟩ := h
        refine ⟨100000 * k0 + 1 + (cE 2 - (vint B (cE 2) p).2), by omega, k0, (vint B (cE 2) p).2, 1, 0, D, [pvS A D.length], F2, z2, rfl, by decide, by decide, hJ, hB.pa m1 m2 m3, rfl, rfl, by rw [el, paC_h], by rw [el, paW_h]⟩
    · cases hm
      obtain ⟨k0, p, j, c, D, W, F1, z1, rfl, hc31, hjc, hJ, hB, rfl, rfl, rfl, rfl⟩ := h
      refine ⟨300, ?_⟩
      show ((0 ≤ (lg_cmp (lN j) (lN c)) → (isO S1 15 t ∧ (isO S1 15 t ∧ (isO S1 15 t ∧ (pa (mR S1 1543 t) fun a_1 => ∃ v_2 : Int32, (isO S1 17 a_1 ∧ inR S1 a_1 (nI D.length) ∧ v_2 = eI S1 a_1 (nI D.length).toNatClampNeg ∨ a_1 = (mQ S1).1 ∧ vp_in (nI D.length) 16 ∧ v_2 = mRem (nI D.length).toNatClampNeg) ∧ (pa (mR S1 1542 t) fun a_3 => isO S1 17 a_3 ∧ inR S1 a_3 (nI D.length) ∧ (∃ k1, k1 < 100000 * k0 + 1 + (cE 2 - p) ∧ I_rpa1 t r F z Y R kz B L cA cE A S k1 [(0, .inr (.inr (some t))), (1, .inl ((nI D.length) + (1 : Int32)))] [] (rI S1 a_3 (upd (eI S1 a_3) (nI D.length).toNatClampNeg ((mI S1 1550 t) - v_2))) (gqC (kz 47) (D.flatten ++ W).length) (gqZ (kz 47) (D.flatten ++ W).length)))))))) ∧ (¬ 0 ≤ (lg_cmp (lN j) (lN c)) → (0 = 0 ∧ (∃ (F_4 : Nat → Nat × Nat) (z_5 : Nat → Nat) (Y_6 : Nat → Nat → Nat) (R_7 : Rb) (kz_8 : Nat → Nat) (r_9 : Nat) (B_10 : List Nat) (p_11 q_12 : Nat), (MD S1 F_4 t z_5 Y_6 R_7 kz_8 ∧ rdP9 S1 t r_9 B_10 p_11 q_12) ∧ gqC (kz 47) (D.flatten ++ W).length ≤ gqC (kz 47) (npa B L cA cE A).2.1.flatten.length ∧ gqZ (kz 47) (D.flatten ++ W).length ≤ gqZ (kz 47) (npa B L cA cE A).2.1.flatten.length ∧ (∀ (S_13 : MM), (nuQ S1 S_13 t B_10 p_11 q_12) → (0 = 0 ∧ (∃ (F_14 : Nat → Nat × Nat) (z_15 : Nat → Nat) (Y_16 : Nat → Nat → Nat) (R_17 : Rb) (kz_18 : Nat → Nat) (L_19 : List Nat) (o_20 : Option Nat), (MD S_13 F_14 t z_15 Y_16 R_17 kz_18 ∧ lsP S_13 t z_15 L_19 ∧ L_19.length ≤ 256 ∧ (oJ (vint B_10 q_12 p_11).1) = oJ o_20 ∧ ∀ n, o_20 = some n → n < 2147483648) ∧ gqC (kz 47) (D.flatten ++ W).length ≤ gqC (kz 47) (npa B L cA cE A).2.1.flatten.length ∧ gqZ (kz 47) (D.flatten ++ W).length ≤ gqZ (kz 47) (npa B L cA cE A).2.1.flatten.length ∧ (((0 ≤ (agV L_19 o_20) → (0 = 0 ∧ (∃ (F_22 : Nat → Nat × Nat) (z_23 : Nat → Nat) (Y_24 : Nat → Nat → Nat) (R_25 : Rb) (kz_26 : Nat → Nat) (r_27 : Nat) (B_28 : List Nat) (p_29 q_30 : Nat), (MD S_13 F_22 t z_23 Y_24 R_25 kz_26 ∧ rdP9 S_13 t r_27 B_28 p_29 q_30) ∧ gqC (kz 47) (D.flatten ++ W).length ≤ gqC (kz 47) (npa B L cA cE A).2.1.flatten.length ∧ gqZ (kz 47) (D.flatten ++ W).length ≤ gqZ (kz 47) (npa B L cA cE A).2.1.flatten.length ∧ (∀ (S_31 : MM), (nuQ S_13 S_31 t B_28 p_29 q_30) → ((0 ≤ (lg_cmp (oJ (vint B_28 q_30 p_29).1) (0 : Int64)) → (0 = 0 ∧ (∃ (a_32 : Nat), agV L_19 o_20 = nI a_32 ∧ (∃ (F_33 : Nat → Nat × Nat) (z_34 : Nat → Nat) (Y_35 : Nat → Nat → Nat) (R_36 : Rb) (kz_37 : Nat → Nat) (PL_38 : List (Nat × Nat)) (x_39 : Nat), (MD S_31 F_33 t z_34 Y_35 R_36 kz_37 ∧ paP S_31 t z_34 kz_37 PL_38 ∧ PL_38.length ≤ 65536 ∧ (oJ (vint B_28 q_30 p_29).1) = lN x_39) ∧ gqC (kz 47) (D.flatten ++ W).length + (paC kz_37 PL_38.length) ≤ gqC (kz 47) (npa B L cA cE A).2.1.flatten.length ∧ gqZ (kz 47) (D.flatten ++ W).length + (paW kz_37 PL_38.length) ≤ gqZ (kz 47) (npa B L cA cE A).2.1.flatten.length ∧ (∀ (S_40 : MM), (∃ F' z', MD S_40 F' t z' Y_35 R_36 (paZ kz_37 PL_38.length) ∧ rG [47, 48] [1550] S_31 S_40 F_33 F' t z_34 z' ∧ paP S_40 t z' (paZ kz_37 PL_38.length) (PL_38 ++ [(a_32, x_39)])) → (∃ k1, k1 < 100000 * k0 + 1 + (cE 2 - p) ∧ I_rpa4 t r F z Y R kz B L cA cE A S k1 [(0, .inr (.inr (some t))), (1, .inl (nI D.length)), (2, .inr (.inl (lN c))), (4, .inr (.inl ((lN j) + (1 : Int64))))] [] S_40 (gqC (kz 47) (D.flatten ++ W).length + (paC kz_37 PL_38.length)) (gqZ (kz 47) (D.flatten ++ W).length + (paW kz_37 PL_38.length)))))))) ∧ (¬ 0 ≤ (lg_cmp (oJ (vint B_28 q_30 p_29).1) (0 : Int64)) → (([] : List MV) = [] ∧ mret (some .boolean) (sp_rrpa t F z Y R kz r B L cA cE A) [.inr (.inr (some t))] S (some (.inl (0 : Int32))) S_31 (gqC (kz 47) (D.flatten ++ W).length) (gqZ (kz 47) (D.flatten ++ W).length)))))))) ∧ (¬ 0 ≤ (agV L_19 o_20) → ((0 ≤ (lg_cmp (-1 : Int64) (0 : Int64)) → (0 = 0 ∧ (∃ (a_41 : Nat), agV L_19 o_20 = nI a_41 ∧ (∃ (F_42 : Nat → Nat × Nat) (z_43 : Nat → Nat) (Y_44 : Nat → Nat → Nat) (R_45 : Rb) (kz_46 : Nat → Nat) (PL_47 : List (Nat × Nat)) (x_48 : Nat), (MD S_13 F_42 t z_43 Y_44 R_45 kz_46 ∧ paP S_13 t z_43 kz_46 PL_47 ∧ PL_47.length ≤ 65536 ∧ (-1 : Int64) = lN x_48) ∧ gqC (kz 47) (D.flatten ++ W).length + (paC kz_46 PL_47.length) ≤ gqC (kz 47) (npa B L cA cE A).2.1.flatten.length ∧ gqZ (kz 47) (D.flatten ++ W).length + (paW kz_46 PL_47.length) ≤ gqZ (kz 47) (npa B L cA cE A).2.1.flatten.length ∧ (∀ (S_49 : MM), (∃ F' z', MD S_49 F' t z' Y_44 R_45 (paZ kz_46 PL_47.length) ∧ rG [47, 48] [1550] S_13 S_49 F_42 F' t z_43 z' ∧ paP S_49 t z' (paZ kz_46 PL_47.length) (PL_47 ++ [(a_41, x_48)])) → (∃ k1, k1 < 100000 * k0 + 1 + (cE 2 - p) ∧ I_rpa4 t r F z Y R kz B L cA cE A S k1 [(0, .inr (.inr (some t))), (1, .inl (nI D.length)), (2, .inr (.inl (lN c))), (4, .inr (.inl ((lN j) + (1 : Int64))))] [] S_49 (gqC (kz 47) (D.flatten ++ W).length + (paC kz_46 PL_47.length)) (gqZ (kz 47) (D.flatten ++ W).length + (paW kz_46 PL_47.length)))))))) ∧ (¬ 0 ≤ (lg_cmp (-1 : Int64) (0 : Int64)) → (([] : List MV) = [] ∧ mret (some .boolean) (sp_rrpa t F z Y R kz r B L cA cE A) [.inr (.inr (some t))] S (some (.inl (0 : Int32))) S_13 (gqC (kz 47) (D.flatten ++ W).length) (gqZ (kz 47) (D.flatten ++ W).length))))))))))))))
      obtain ⟨hM, ⟨r1, r2, hC, hc⟩, hL0, hA0, hAA⟩ := hp
      obtain ⟨b1, b2⟩ := gq_mono (kz 47) hJ.le
      obtain ⟨M1, hG, hA, hL, hR, hP, hfp⟩ := id hB
      have hB8 : B.length ≤ 32768 := r2.2.2.1
      have hk40 := (M1 11).2.2.2.1
      have hk40 : kz 40 ≤ 131072 := hk40
      have hAl := hA.2.1
      have hc2 := hc 2 (by decide)
      have hpq := hR.2.2.2.2.1
      obtain ⟨j1, j2, j3, j4⟩ := id hJ
      have cl : (nI D.length).toNatClampNeg = D.length := nI_clamp (by omega)
      refine ⟨fun q => ?_, fun q => ?_⟩
      · have hcj : c ≤ j := (lgg (by omega) (by omega)).1 q
        have r42 := M1 1 42 (by decide)
        have r43 := M1 1 43 (by decide)
        have n42 : mN S1 (z1 42) = kz 40 := r42.2.2.2
        have n43 : mN S1 (z1 43) = kz 40 := r43.2.2.2
        have hne : z1 43 ≠ z1 42 := rK.nz M1 (by decide) (by decide) (by decide)
        have e43 : eI S1 (z1 43) D.length = nI D.flatten.length := by
          have := hfp.1 D.length (by omega)
          rw [List.take_length] at this; exact this
        have el : (D ++ [W]).length = D.length + 1 := by rw [List.length_append]; rfl
        have hB2 : rpW S (rI S1 (z1 42) (upd (eI S1 (z1 42)) D.length (nI W.length))) F F1 t r z z1 Y R kz B L A p (cE 2) (D ++ [W]) (D ++ [W]).flatten (D ++ [W]).length := by
          rw [fl_1]
          refine hB.wr (j := 42) (Or.inl rfl) ⟨fun i hi => ?_, fun i hi => ?_⟩
          · rw [el] at hi
            rw [eI_rI, if_neg hne, hfp.1 i hi, List.take_append_of_le_length (by omega)]
          · rw [el] at hi
            rw [eI_rI, if_pos rfl, upd]
            by_cases w : i = D.length
            · rw [if_pos w, w, List.getD_eq_getElem?_getD, List.getElem?_append_right (Nat.le_refl _), Nat.sub_self]; rfl
            · rw [if_neg w, hfp.2 i (by omega), List.getD_eq_getElem?_getD, List.getD_eq_getElem?_getD, List.getElem?_append_left (by omega)]
        refine ⟨(M1 0).1, (M1 0).1, (M1 0).1, rdI (v := nI D.flatten.length) r43.1 r43.2.2.1 (inRn n43 (by omega) (by omega)) (by rw [cl]; exact e43) (pa_i r42.1 ⟨r42.2.2.1, inRn n42 (by omega) (by omega), 100000 * k0, by omega, k0, p, D ++ [W], F1, z1, rfl, ⟨j2 hcj, by rw [el]; omega, by rw [fl_1, List.length_append]; omega⟩, ?_, by rw [el, nI_1], rfl, by rw [fl_1], by rw [fl_1]⟩)⟩
        rw [cl, hP.1, pk_sub (by rw [List.length_append]; omega), List.length_append, Nat.add_sub_cancel_left]
        exact hB2
      · have hjc2 : j < c := Nat.lt_of_not_le (fun w => q ((lgg (by omega) (by omega)).2 w))
        obtain ⟨M, eW, e4⟩ := j1 hjc2
        obtain ⟨i, hi⟩ : ∃ i, c - j = i + 1 := ⟨c - j - 1, by omega⟩
        rw [hi] at e4
        have bad : ∀ {S2 p2 m2}, rpW S S2 F F1 t r z z1 Y R kz B L A p2 (cE 2) D (D.flatten ++ W) m2 → prX B (cE 2) L.length (i + 1) M p = (false, M, p) → (([] : List MV) = [] ∧ mret (some .boolean) (sp_rrpa t F z Y R kz r B L cA cE A) [.inr (.inr (some t))] S (some (.inl (0 : Int32))) S2 (gqC (kz 47) (D.flatten ++ W).length) (gqZ (kz 47) (D.flatten ++ W).length)) := fun {S2 p2 m2} h2 e5 => by
          rw [e5] at e4
          have e6 : npa B L cA cE A = (false, D ++ [rsv L M], 0) := e4
          exact rrpa_bad h2 (by rw [e6]) (by rw [e6, eW, fl_1])
        refine ⟨rfl, F1, z1, Y, R, hz kz (D.flatten ++ W).length, r, B, p, cE 2, ⟨M1, hR⟩, b1, b2, fun S13 hq => ?_⟩
        obtain ⟨p1, a1, a2, hB2, hp1⟩ := hB.nu hq
        refine ⟨rfl, F1, z1, Y, R, hz kz (D.flatten ++ W).length, L, (vint B (cE 2) p).1, ⟨hB2.1, hB2.2.2.2.1, len_256 hL.2.2.1 hL.2.2.2, rfl, fun n e => vint_lt r2.2.2.2.1 e⟩, b1, b2, ?_⟩
        cases hv : (vint B (cE 2) p).1 with
        | none =>
          exact ⟨fun w => absurd w (show ¬ (0 : Int32) ≤ -1 by decide), fun _ => ⟨fun w => absurd w (by decide), fun _ => bad hB2 (prX_1 hv)⟩⟩
        | some a =>
          have hgt := vint_gt hv
          by_cases ha : a < L.length
          · have ea : agV L (some a) = nI (L.getD a 0) := if_pos ha
            have hm9 : L.getD a 0 ∈ L := by
              rw [List.getD_eq_getElem?_getD, List.getElem?_eq_getElem ha]
              exact List.getElem_mem ha
            have h256 := hL.2.2.2 _ hm9
            have e1 := hp1 a hv
            subst e1
            rw [ea]
            refine ⟨fun _ => ⟨rfl, F1, z1, Y, R, hz kz (D.flatten ++ W).length, r, B, _, cE 2, ⟨hB2.1, hB2.2.2.2.2.1⟩, b1, b2, fun S31 hq2 => ?_⟩, fun w => absurd (Int32.not_lt.1 (nI_pos (by omega))) w⟩
            obtain ⟨p2, a3, a4, hB3, hp2⟩ := hB2.nu hq2
            cases hv2 : (vint B (cE 2) (vint B (cE 2) p).2).1 with
            | none => exact ⟨fun w => absurd w (by decide), fun _ => bad hB3 (prX_3 hv hv2)⟩
            | some b =>
              have hb := vint_lt r2.2.2.2.1 hv2
              have hgt2 := vint_gt hv2
              have e2 := hp2 b hv2
              subst e2
              have eX := prX_4 (n := L.length) (k := i) (M := M) hv ha hv2
              rw [eX] at e4
              have el : (D.flatten ++ (W ++ [(L.getD a 0, b)])).length = (D.flatten ++ W).length + 1 := by rw [← List.append_assoc, List.length_append]; rfl
              have lD : (D.flatten ++ W).length = D.flatten.length + W.length := List.length_append
              have hJ2 : rpJ B L cA cE A k0 (vint B (cE 2) (vint B (cE 2) p).2).2 (j + 1) c D (W ++ [(L.getD a 0, b)]) := by
                refine ⟨fun w => ⟨M ++ [(a, b)], ?_, ?_⟩, fun w => ?_, j3, ?_⟩
                · rw [eW]; unfold rsv; rw [List.map_append]; rfl
                · rw [show c - (j + 1) = i by omega]; exact e4
                · have i0 : i = 0 := by omega
                  subst i0
                  rw [e4, eW]
                  unfold rsv
                  show rdPq B L (cE 2) A k0 _ (D ++ [rsv L (M ++ [(a, b)])]) = _
                  unfold rsv
                  rw [List.map_append]; rfl
                · rw [List.length_append]; show D.flatten.length + (W.length + 1) + cA 2 ≤ _; omega
              obtain ⟨d1, d2⟩ := gq_mono (kz 47) hJ2.le
              rw [el] at d1 d2
              refine ⟨fun _ => ⟨rfl, _, rfl, F1, z1, Y, R, hz kz (D.flatten ++ W).length, D.flatten ++ W, b, ⟨hB3.1, hB3.2.2.2.2.2.1, by omega, rfl⟩, by rw [paC_h]; exact d1, by rw [paW_h]; exact d2, fun S40 h => ?_⟩, fun w => absurd ((lgg (a := b) (b := 0) (by omega) (by decide)).2 (Nat.zero_le _)) w⟩
              obtain ⟨F2, z2, m1, m2, m3⟩ := h
              refine ⟨100000 * k0 + 1 + (cE 2 - (vint B (cE 2) (vint B (cE 2) p).2).2), by omega, k0, _, j + 1, c, D, W ++ [(L.getD a 0, b)], F2, z2, rfl, hc31, by omega, hJ2, ?_, by rw [show (1 : Int64) = lN 1 from rfl, lN_plus], rfl, by rw [el, paC_h], by rw [el, paW_h]⟩
              have hB4 := hB3.pa m1 m2 m3
              rw [List.append_assoc] at hB4; exact hB4
          · have ea : agV L (some a) = -1 := if_neg ha
            rw [ea]
            exact ⟨fun w => absurd w (by decide), fun _ => ⟨fun w => absurd w (by decide), fun _ => bad hB2 (prX_2 hv ha)⟩⟩
theorem u_rrpa (l : Launch) : Us l yX14_readParents cX14_readParents 9 (some .boolean) 3 77 15 T_rrpa := by
  intro Rc Rs av S cs sl K Kx h
  unfold T_rrpa at h
  split at h
  · rename_i t_o
    obtain ⟨t, rfl, h_1⟩ := pa_of h
    obtain ⟨F, z, Y, R, kz, r, B, L, cA, cE, A, hp, hc, hs, hk⟩ := h_1
    refine ⟨(sp_rrpa t F z Y R kz r B L cA cE A), c_rrpa l t F z Y R kz r B L cA cE A, fun _ _ h9 => ⟨_, _, h9.1, (h9.2.1 0).1⟩, ⟨rfl, hp⟩, hc, hs, fun v9 S' h8 => by
      obtain ⟨h7, h8⟩ := h8
      cases h7
      exact hk _ h8, fun _ _ q => q.elim⟩
  · exact h.elim
