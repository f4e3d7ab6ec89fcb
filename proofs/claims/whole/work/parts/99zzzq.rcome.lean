/-! ===== The reference: come (the events of a patch) ===== -/
abbrev Dss : Type := List (List (Nat × Nat))
/-- what was read of a patch: spans, parents, operations, characters, in the rows -/
def dtP (S : MM) (t : Nat) (z : Nat → Nat) (kz : Nat → Nat) (A : List SpR) (D : List (List (Nat × Nat))) (O : List (Nat × Int)) (SY : List Int32) : Prop := spP S t z kz A ∧ (paP S t z kz D.flatten ∧ fpP S z D D.length) ∧ oqP S z O ∧ txP S t z SY
def insL (A : List SpR) (O : List (Nat × Int)) : Nat → Nat → Nat
  | 0, _ => 0
  | r + 1, s => (if (O.getD s (0, 0)).1 = 0 then (A.getD s (0, 0, 0)).2.2 else 0) + insL A O r (s + 1)
def dtB (A : List SpR) (D : List (List (Nat × Nat))) (O : List (Nat × Int)) (SY : List Int32) : Prop := D.length = A.length ∧ O.length = A.length ∧ (∀ s, s ∈ A → s.1 < 256 ∧ s.2.1 < 2147483648 ∧ 1 ≤ s.2.2 ∧ s.2.2 ≤ 8192) ∧ (∀ P, P ∈ D → ∀ x, x ∈ P → x.1 < 256 ∧ x.2 < 4294967296) ∧ D.flatten.length ≤ 32768 ∧ (∀ j, j < A.length → (O.getD j (0, 0)).1 < 3 ∧ 0 ≤ (O.getD j (0, 0)).2 ∧ (O.getD j (0, 0)).2 ≤ 1000000000000000 ∧ ((O.getD j (0, 0)).1 = 2 → ((A.getD j (0, 0, 0)).2.2 : Int) ≤ (O.getD j (0, 0)).2 + 1)) ∧ (∀ c, c ∈ SY → ∃ x, c = nI x ∧ x < 2000000) ∧ insL A O A.length 0 = SY.length
/-- an event as the reference reads it: agent, number, index, parents, character -/
abbrev Rv : Type := Nat × Nat × Nat × List (Nat × Nat) × Option Nat
def thO (o : Nat × Int) (k : Nat) : Int := o.2 + (if o.1 = 0 then (k : Int) else if o.1 = 1 then 0 else -(k : Int))
def rvE (A : List SpR) (D : List (List (Nat × Nat))) (O : List (Nat × Int)) (s k : Nat) (oc : Option Nat) : Rv := ((A.getD s (0, 0, 0)).1, (A.getD s (0, 0, 0)).2.1 + k, (thO (O.getD s (0, 0)) k).toNat, (if 0 < k then [((A.getD s (0, 0, 0)).1, (A.getD s (0, 0, 0)).2.1 + k - 1)] else D.getD s []), oc)
def rvOf (A : List SpR) (D : List (List (Nat × Nat))) (O : List (Nat × Int)) (s : Nat) : Nat → Nat → List Int32 → List Rv
  | 0, _, _ => []
  | m + 1, k, sy => rvE A D O s k (if (O.getD s (0, 0)).1 = 0 then some (sy.headD 0).toNatClampNeg else none) :: rvOf A D O s m (k + 1) (if (O.getD s (0, 0)).1 = 0 then sy.tail else sy)
def rvAll (A : List SpR) (D : List (List (Nat × Nat))) (O : List (Nat × Int)) : Nat → Nat → List Int32 → List Rv
  | 0, _, _ => []
  | r + 1, s, sy => rvOf A D O s (A.getD s (0, 0, 0)).2.2 0 sy ++ rvAll A D O r (s + 1) (if (O.getD s (0, 0)).1 = 0 then sy.drop (A.getD s (0, 0, 0)).2.2 else sy)
/-- the run up to the first fault; kz: the size of the row of found parents -/
def rvX : List Rv → Gr → Tr → (Nat → Nat) → Gr → Tr → (Nat → Nat) → Nat → Prop
  | [], G, T, kz, G', T', kz', f => G' = G ∧ T' = T ∧ kz' = kz ∧ f = 0
  | x :: E, G, T, kz, G', T', kz', f => (x.2.1 < (agE G x.1).length ∧ rvX E G T kz G' T' kz' f) ∨ (¬ x.2.1 < (agE G x.1).length ∧ ∃ G1 T1 f1, evX G T x.1 x.2.1 x.2.2.1 x.2.2.2.1 x.2.2.2.2 G1 T1 f1 ∧ ((f1 ≠ 0 ∧ f = f1 ∧ G' = G1 ∧ T' = T1 ∧ kz' = evZ kz G x.1 x.2.1 x.2.2.2.1.length) ∨ (f1 = 0 ∧ rvX E G1 T1 (evZ kz G x.1 x.2.1 x.2.2.2.1.length) G' T' kz' f)))
/-- what it may cost -/
def rvK : List Rv → Gr → Tr → (Nat → Nat) → Nat → Nat → Prop
  | [], _, _, _, _, _ => True
  | x :: E, G, T, kz, C, Z => (x.2.1 < (agE G x.1).length → rvK E G T kz C Z) ∧ (¬ x.2.1 < (agE G x.1).length → nc_e1 kz G x.1 x.2.1 x.2.2.1 x.2.2.2.1 x.2.2.2.2 ≤ C ∧ nc_e2 kz G x.1 x.2.1 x.2.2.1 x.2.2.2.1 x.2.2.2.2 ≤ Z ∧ ∀ G1 T1, evX G T x.1 x.2.1 x.2.2.1 x.2.2.2.1 x.2.2.2.2 G1 T1 0 → rvK E G1 T1 (evZ kz G x.1 x.2.1 x.2.2.2.1.length) (C - nc_e1 kz G x.1 x.2.1 x.2.2.1 x.2.2.2.1 x.2.2.2.2) (Z - nc_e2 kz G x.1 x.2.1 x.2.2.1 x.2.2.2.1 x.2.2.2.2))
def cmJ (S S1 : MM) (F F1 : Nat → Nat × Nat) (t : Nat) (z z1 : Nat → Nat) (Y Y1 : Nat → Nat → Nat) (R : Rb) (kz kz1 : Nat → Nat) (n : Nat) (G1 : Gr) (T1 : Tr) : Prop := MD S1 F1 t z1 Y1 (R.sG n G1 T1) kz1 ∧ rH n [24, 15] [1537] S S1 F F1 t z z1 ∧ (∀ q, Y1 q 0 = Y q 0) ∧ GT G1 T1 ∧ (R.Q.G n).n ≤ G1.n ∧ mI S1 1537 t = nI (G1.n - (R.Q.G n).n) ∧ ∀ k, k ≠ 24 → kz1 k = kz k
def cmT (E0 : List Rv) (G : Gr) (T : Tr) (kz : Nat → Nat) (kC kZ : Nat) (E1 : List Rv) (G1 : Gr) (T1 : Tr) (kz1 : Nat → Nat) (cs sl : Nat) : Prop := (∀ G' T' kz' f, rvX E1 G1 T1 kz1 G' T' kz' f → rvX E0 G T kz G' T' kz' f) ∧ cs ≤ kC ∧ sl ≤ kZ ∧ rvK E1 G1 T1 kz1 (kC - cs) (kZ - sl)
def cmQ (S S' : MM) (F : Nat → Nat × Nat) (t : Nat) (z : Nat → Nat) (Y : Nat → Nat → Nat) (R : Rb) (kz : Nat → Nat) (n : Nat) (E0 : List Rv) (v : Int32) : Prop := ∃ f F' z' Y' G' T' kz', v = nI f ∧ f < 8 ∧ rvX E0 (R.Q.G n) (R.Q.T n) kz G' T' kz' f ∧ cmJ S S' F F' t z z' Y Y' R kz kz' n G' T'
theorem mdN_24 {kz kz1 : Nat → Nat} (h : ∀ k, k ≠ 24 → kz1 k = kz k) {k : Nat} (hk : k ≠ 24) : mdN kz1 k = mdN kz k := by
  unfold mdN
  rw [h 9 (by decide), if_neg hk, if_neg hk, h 47 (by decide), h 40 (by decide)]
section CMI
variable {S S1 : MM} {F F1 : Nat → Nat × Nat} {t : Nat} {z z1 : Nat → Nat} {Y Y1 : Nat → Nat → Nat} {R : Rb} {kz kz1 : Nat → Nat} {n : Nat} {G1 : Gr} {T1 : Tr}
theorem cmJ.row (h : cmJ S S1 F F1 t z z1 Y Y1 R kz kz1 n G1 T1) (hM : MD S F t z Y R kz) {j : Nat} (hj : j ∈ mdL) (hn : j ∉ [24, 15]) : eI S1 (z1 j) = eI S (z j) ∧ eJ S1 (z1 j) = eJ S (z j) ∧ mR S1 (1500 + j) t = some (z1 j) ∧ isO S1 (mdK j) (z1 j) ∧ mN S1 (z1 j) = mdN kz j := by
  have e1 := h.2.1.zo hn
  have e2 := h.2.1.row hM (by decide) hj hn
  have r := h.1 1 j hj
  refine ⟨by rw [e1]; exact e2.1, by rw [e1]; exact e2.2.1, r.1, r.2.2.1, ?_⟩
  rw [r.2.2.2]
  exact mdN_24 h.2.2.2.2.2.2 (fun e => hn (by rw [e]; decide))
theorem cmJ.gt (h : cmJ S S1 F F1 t z z1 Y Y1 R kz kz1 n G1 T1) (hn : n < 4) : RG S1 F1 (101 + n) (Y1 n) G1 T1 := by
  have := (h.1 2 n hn).2.1
  have eG : (R.sG n G1 T1).Q.G n = G1 := upF_s
  have eT : (R.sG n G1 T1).Q.T n = T1 := upF_s
  rw [eG, eT] at this
  exact this
end CMI
theorem fl_get {α : Type} {D : List (List α)} {s j : Nat} {d : α} (hs : s < D.length) (hj : j < (D.getD s []).length) : D.flatten.getD ((D.take s).flatten.length + j) d = (D.getD s []).getD j d ∧ (D.take s).flatten.length + (D.getD s []).length ≤ D.flatten.length := by
  have e0 : D.getD s [] = D[s] := by rw [List.getD_eq_getElem?_getD, List.getElem?_eq_getElem hs]; rfl
  have e1 : D = D.take s ++ D[s] :: D.drop (s + 1) := by
    have e1 := (List.take_append_drop s D).symm
    rw [List.drop_eq_getElem_cons hs] at e1
    exact e1
  have e2 : D.flatten = (D.take s).flatten ++ (D[s] ++ (D.drop (s + 1)).flatten) := by
    have := congrArg List.flatten e1
    rw [List.flatten_append, List.flatten_cons] at this
    exact this
  rw [e0] at hj ⊢
  rw [e2]
  refine ⟨?_, by rw [List.length_append, List.length_append]; omega⟩
  rw [List.getD_eq_getElem?_getD, List.getElem?_append_right (by omega), Nat.add_sub_cancel_left, List.getElem?_append_left hj, ← List.getD_eq_getElem?_getD]
theorem fl_len {α : Type} {D : List (List α)} {s : Nat} (hs : s < D.length) : (D.take s).flatten.length + (D.getD s []).length ≤ D.flatten.length := by
  have e0 : D.getD s [] = D[s] := by rw [List.getD_eq_getElem?_getD, List.getElem?_eq_getElem hs]; rfl
  have e1 := (List.take_append_drop s D).symm
  rw [List.drop_eq_getElem_cons hs] at e1
  have := congrArg List.flatten e1
  rw [List.flatten_append, List.flatten_cons] at this
  rw [e0, this, List.length_append, List.length_append]
  omega
def cmX (kd : Nat) (oc : Option Nat) (c : Int32) : Prop := (kd = 0 ∧ ∃ ch, oc = some ch ∧ ch < 2000000 ∧ c = nI ch) ∨ (kd ≠ 0 ∧ kd < 3 ∧ oc = none)
/-- the data of event k of span s -/
theorem dt_ev {S S1 : MM} {F F1 : Nat → Nat × Nat} {t : Nat} {z z1 : Nat → Nat} {Y Y1 : Nat → Nat → Nat} {R : Rb} {kz kz1 : Nat → Nat} {n : Nat} {G1 : Gr} {T1 : Tr} {A : List SpR} {D : List (List (Nat × Nat))} {O : List (Nat × Int)} {SY : List Int32} {s k9 : Nat} {oc : Option Nat} {c : Int32} (h : cmJ S S1 F F1 t z z1 Y Y1 R kz kz1 n G1 T1) (hM : MD S F t z Y R kz) (hn : n < 4) (hP : dtP S t z kz A D O SY) (hB : dtB A D O SY) (hs : s < A.length) (hk : k9 < (A.getD s (0, 0, 0)).2.2) (hX : cmX (O.getD s (0, 0)).1 oc c) (hnk : ¬ (rvE A D O s k9 oc).2.1 < (agE G1 (rvE A D O s k9 oc).1).length) : evD S1 z1 kz1 s k9 (rvE A D O s k9 oc).1 (rvE A D O s k9 oc).2.1 (O.getD s (0, 0)).1 (rvE A D O s k9 oc).2.2.2.1 ∧ evP (R.sG n G1 T1) n (rvE A D O s k9 oc).1 (rvE A D O s k9 oc).2.1 (rvE A D O s k9 oc).2.2.1 (O.getD s (0, 0)).1 k9 (rvE A D O s k9 oc).2.2.2.1 (rvE A D O s k9 oc).2.2.2.2 c := by
  obtain ⟨hA, ⟨hpa, hfp⟩, hO, hT⟩ := hP
  obtain ⟨b1, b2, b3, b4, b5, b6, b7, b8⟩ := hB
  have hm : A.getD s (0, 0, 0) ∈ A := by
    rw [List.getD_eq_getElem?_getD, List.getElem?_eq_getElem hs]
    exact List.getElem_mem hs
  obtain ⟨c1, c2, c3, c4⟩ := b3 _ hm
  obtain ⟨o1, o2, o3, o4⟩ := b6 s hs
  have hDs : s < D.length := by omega
  have hmD : D.getD s [] ∈ D := by
    rw [List.getD_eq_getElem?_getD, List.getElem?_eq_getElem hDs]
    exact List.getElem_mem hDs
  have lD := fl_len hDs
  have eG : (R.sG n G1 T1).Q.G n = G1 := upF_s
  have eT : (R.sG n G1 T1).Q.T n = T1 := upF_s
  have e40 := h.2.2.2.2.2.2 40 (by decide)
  have e47 := h.2.2.2.2.2.2 47 (by decide)
  have r40 := h.row hM (j := 40) (by decide) (by decide)
  have r41 := h.row hM (j := 41) (by decide) (by decide)
  have r42 := h.row hM (j := 42) (by decide) (by decide)
  have r43 := h.row hM (j := 43) (by decide) (by decide)
  have r47 := h.row hM (j := 47) (by decide) (by decide)
  have r48 := h.row hM (j := 48) (by decide) (by decide)
  have th1 : thO (O.getD s (0, 0)) k9 < 4611686018427387904 := by
    unfold thO
    split
    · omega
    · split <;> omega
  refine ⟨⟨by rw [e40]; exact Nat.lt_of_lt_of_le hs hA.2.1, by rw [r40.1]; exact (hA.2.2 s hs).1, by rw [r41.1]; exact (hO s (by omega)).1, ?_⟩, hn, c1, by show (A.getD s (0, 0, 0)).2.1 + k9 < _; omega, by show (thO (O.getD s (0, 0)) k9).toNat < _; omega, by rw [eG]; exact Nat.le_of_not_lt hnk, ?_, ?_, by omega, hX, by rw [eG, eT]; exact h.2.2.2.1⟩
  · by_cases k0 : 0 < k9
    · exact Or.inl ⟨k0, by show 0 < (A.getD s (0, 0, 0)).2.1 + k9; omega, if_pos k0⟩
    · have k00 : k9 = 0 := by omega
      have ePP : (rvE A D O s k9 oc).2.2.2.1 = D.getD s [] := if_neg k0
      rw [ePP]
      refine Or.inr ⟨k00, by rw [r42.1]; exact hfp.2 s hDs, (D.take s).flatten.length, by rw [r43.1]; exact hfp.1 s hDs, ?_, fun j hj => ?_⟩
      · rw [e47]; exact Nat.le_trans lD hpa.2.1
      · have := hpa.2.2 ((D.take s).flatten.length + j) (by omega)
        rw [(fl_get (d := (0, 0)) hDs hj).1] at this
        rw [r47.1, r48.2.1]; exact this
  · show (if 0 < k9 then [((A.getD s (0, 0, 0)).1, (A.getD s (0, 0, 0)).2.1 + k9 - 1)] else D.getD s []).length ≤ 32768
    split
    · exact (by decide : 1 ≤ 32768)
    · omega
  · show ∀ x, x ∈ (if 0 < k9 then [((A.getD s (0, 0, 0)).1, (A.getD s (0, 0, 0)).2.1 + k9 - 1)] else D.getD s []) → x.1 < 256 ∧ x.2 < 4294967296
    split
    · intro x hx
      rw [List.mem_singleton.1 hx]
      exact ⟨c1, by show (A.getD s (0, 0, 0)).2.1 + k9 - 1 < _; omega⟩
    · exact b4 _ hmD
def cmL (g ch s : Nat) (t : Nat) : List (Nat × MV) := [(0, .inr (.inr (some t))), (2, .inr (.inr (some g))), (3, .inl (nI ch)), (4, .inl (nI s))]
def I_cm1 (t : Nat) (F : Nat → Nat × Nat) (z : Nat → Nat) (Y : Nat → Nat → Nat) (R : Rb) (kz : Nat → Nat) (n : Nat) (A : List SpR) (D : List (List (Nat × Nat))) (O : List (Nat × Int)) (SY : List Int32) (kC kZ : Nat) (S : MM) (k : Nat) : KT := fun lo st S1 cs sl => ∃ (r s ch : Nat) (F1 : Nat → Nat × Nat) (z1 : Nat → Nat) (Y1 : Nat → Nat → Nat) (G1 : Gr) (T1 : Tr) (kz1 : Nat → Nat), k = 100000 * r ∧ s + r = A.length ∧ cmJ S S1 F F1 t z z1 Y Y1 R kz kz1 n G1 T1 ∧ cmT (rvAll A D O A.length 0 SY) (R.Q.G n) (R.Q.T n) kz kC kZ (rvAll A D O r s (SY.drop ch)) G1 T1 kz1 cs sl ∧ insL A O r s + ch = SY.length ∧ lo = [(0, .inr (.inr (some t))), (2, .inr (.inr (some (Y n 0)))), (3, .inl (nI ch)), (4, .inl (nI s))] ∧ st = []
def I_cm2 (t : Nat) (F : Nat → Nat × Nat) (z : Nat → Nat) (Y : Nat → Nat → Nat) (R : Rb) (kz : Nat → Nat) (n : Nat) (A : List SpR) (D : List (List (Nat × Nat))) (O : List (Nat × Int)) (SY : List Int32) (kC kZ : Nat) (S : MM) (k : Nat) : KT := fun lo st S1 cs sl => ∃ (r s ch k9 h : Nat) (F1 : Nat → Nat × Nat) (z1 : Nat → Nat) (Y1 : Nat → Nat → Nat) (G1 : Gr) (T1 : Tr) (kz1 : Nat → Nat), k = 100000 * r + 50000 + 4 * h + 3 ∧ s + r + 1 = A.length ∧ k9 + h = (A.getD s (0, 0, 0)).2.2 ∧ cmJ S S1 F F1 t z z1 Y Y1 R kz kz1 n G1 T1 ∧ cmT (rvAll A D O A.length 0 SY) (R.Q.G n) (R.Q.T n) kz kC kZ (rvOf A D O s h k9 (SY.drop ch) ++ rvAll A D O r (s + 1) (if (O.getD s (0, 0)).1 = 0 then (SY.drop ch).drop h else SY.drop ch)) G1 T1 kz1 cs sl ∧ (if (O.getD s (0, 0)).1 = 0 then h else 0) + insL A O r (s + 1) + ch = SY.length ∧ lo = [(0, .inr (.inr (some t))), (2, .inr (.inr (some (Y n 0)))), (3, .inl (nI ch)), (4, .inl (nI s)), (5, .inl (nI k9))] ∧ st = []
def I_cm3 (t : Nat) (F : Nat → Nat × Nat) (z : Nat → Nat) (Y : Nat → Nat → Nat) (R : Rb) (kz : Nat → Nat) (n : Nat) (A : List SpR) (D : List (List (Nat × Nat))) (O : List (Nat × Int)) (SY : List Int32) (kC kZ : Nat) (S : MM) (k : Nat) : KT := fun lo st S1 cs sl => ∃ (r s ch k9 h : Nat) (oc : Option Nat) (c : Int32) (F1 : Nat → Nat × Nat) (z1 : Nat → Nat) (Y1 : Nat → Nat → Nat) (G1 : Gr) (T1 : Tr) (kz1 : Nat → Nat), k = 100000 * r + 50000 + 4 * h + 6 ∧ s + r + 1 = A.length ∧ k9 + h + 1 = (A.getD s (0, 0, 0)).2.2 ∧ cmX (O.getD s (0, 0)).1 oc c ∧ cmJ S S1 F F1 t z z1 Y Y1 R kz kz1 n G1 T1 ∧ cmT (rvAll A D O A.length 0 SY) (R.Q.G n) (R.Q.T n) kz kC kZ (rvE A D O s k9 oc :: (rvOf A D O s h (k9 + 1) (SY.drop ch) ++ rvAll A D O r (s + 1) (if (O.getD s (0, 0)).1 = 0 then (SY.drop ch).drop h else SY.drop ch))) G1 T1 kz1 cs sl ∧ (if (O.getD s (0, 0)).1 = 0 then h else 0) + insL A O r (s + 1) + ch = SY.length ∧ lo = [(0, .inr (.inr (some t))), (2, .inr (.inr (some (Y n 0)))), (3, .inl (nI ch)), (4, .inl (nI s)), (5, .inl (nI k9)), (6, .inl c)] ∧ st = []
def I_cm4 (t : Nat) (F : Nat → Nat × Nat) (z : Nat → Nat) (Y : Nat → Nat → Nat) (R : Rb) (kz : Nat → Nat) (n : Nat) (A : List SpR) (D : List (List (Nat × Nat))) (O : List (Nat × Int)) (SY : List Int32) (kC kZ : Nat) (S : MM) (k : Nat) : KT := fun lo st S1 cs sl => ∃ (r s ch k9 h : Nat) (oc : Option Nat) (c : Int32) (F1 : Nat → Nat × Nat) (z1 : Nat → Nat) (Y1 : Nat → Nat → Nat) (G1 : Gr) (T1 : Tr) (kz1 : Nat → Nat), k = 100000 * r + 50000 + 4 * h + 5 ∧ s + r + 1 = A.length ∧ k9 + h + 1 = (A.getD s (0, 0, 0)).2.2 ∧ cmX (O.getD s (0, 0)).1 oc c ∧ ¬ (rvE A D O s k9 oc).2.1 < (agE G1 (rvE A D O s k9 oc).1).length ∧ cmJ S S1 F F1 t z z1 Y Y1 R kz kz1 n G1 T1 ∧ cmT (rvAll A D O A.length 0 SY) (R.Q.G n) (R.Q.T n) kz kC kZ (rvE A D O s k9 oc :: (rvOf A D O s h (k9 + 1) (SY.drop ch) ++ rvAll A D O r (s + 1) (if (O.getD s (0, 0)).1 = 0 then (SY.drop ch).drop h else SY.drop ch))) G1 T1 kz1 cs sl ∧ (if (O.getD s (0, 0)).1 = 0 then h else 0) + insL A O r (s + 1) + ch = SY.length ∧ lo = [(0, .inr (.inr (some t))), (2, .inr (.inr (some (Y n 0)))), (3, .inl (nI ch)), (4, .inl (nI s)), (5, .inl (nI k9)), (6, .inl c), (7, .inr (.inl (lN (rvE A D O s k9 oc).2.1))), (9, .inr (.inl (lN (rvE A D O s k9 oc).2.2.1)))] ∧ st = []
def T_rcm : TR := fun Rc Rs av S cs sl K _Kx => match av with
  | [.inr (.inr t_o), .inl n_v] => pa t_o fun t => (∃ (n : Nat), n_v = nI n ∧ (∃ (F : Nat → Nat × Nat) (z : Nat → Nat) (Y : Nat → Nat → Nat) (R : Rb) (kz : Nat → Nat) (A : List SpR) (D : Dss) (O : List (Nat × Int)) (SY : List Int32) (kC kZ : Nat), (MD S F t z Y R kz ∧ n < 4 ∧ GT (R.Q.G n) (R.Q.T n) ∧ dtP S t z kz A D O SY ∧ dtB A D O SY ∧ mI S 1537 t = 0 ∧ rvK (rvAll A D O A.length 0 SY) (R.Q.G n) (R.Q.T n) kz kC kZ) ∧ cs + kC ≤ Rc ∧ sl + kZ ≤ Rs ∧ (∀ (v : Int32) (S' : MM), (cmQ S S' F t z Y R kz n (rvAll A D O A.length 0 SY) v) → K (some (.inl v)) S' (cs + kC) (sl + kZ))))
  | _ => False
def sp_rcm (t : Nat) (n : Nat) (F : Nat → Nat × Nat) (z : Nat → Nat) (Y : Nat → Nat → Nat) (R : Rb) (kz : Nat → Nat) (A : List SpR) (D : Dss) (O : List (Nat × Int)) (SY : List Int32) (kC kZ : Nat) : Sp := (fun av S => av = [.inr (.inr (some t)), .inl (nI n)] ∧ (MD S F t z Y R kz ∧ n < 4 ∧ GT (R.Q.G n) (R.Q.T n) ∧ dtP S t z kz A D O SY ∧ dtB A D O SY ∧ mI S 1537 t = 0 ∧ rvK (rvAll A D O A.length 0 SY) (R.Q.G n) (R.Q.T n) kz kC kZ), fun _ S => kC, fun _ S => kZ, fun _ S rv S' => ∃ v, rv = (some (.inl v)) ∧ (cmQ S S' F t z Y R kz n (rvAll A D O A.length 0 SY) v), fun _ _ _ _ => False)
def tX14_come : CD := [(0, .aload_n 0), (1, .getfield 11), (4, .iload_n 1), (5, .aaload), (6, .astore_n 2), (7, .iconst 0), (8, .istore_n 3), (9, .iconst 0), (10, .istore 4), (12, .iload 4), (14, .aload_n 0), (15, .getfield 467), (18, .if_icmp .ge 170), (21, .iconst 0), (22, .istore 5), (24, .iload 5), (26, .i2l), (27, .aload_n 0), (28, .getfield 119), (31, .iload 4), (33, .laload), (34, .lcmp), (35, .ifCond .ge 147), (38, .aload_n 0), (39, .getfield 106), (42, .iload 4), (44, .iaload), (45, .ifCond .ne 15), (48, .aload_n 0), (49, .getfield 54), (52, .iload_n 3), (53, .iinc 3 1), (56, .iaload), (57, .goto 4), (60, .iconst 0), (61, .istore 6), (63, .aload_n 0), (64, .getfield 115), (67, .iload 4), (69, .laload), (70, .iload 5), (72, .i2l), (73, .ladd), (74, .lstore 7), (76, .lload 7), (78, .aload_n 2), (79, .aload_n 0), (80, .getfield 103), (83, .iload 4), (85, .iaload), (86, .invokevirtual 218), (89, .i2l), (90, .lcmp), (91, .ifCond .ge 6), (94, .goto 82), (97, .aload_n 0), (98, .getfield 122), (101, .iload 4), (103, .laload), (104, .aload_n 0), (105, .getfield 106), (108, .iload 4), (110, .iaload), (111, .ifCond .ne 8), (114, .iload 5), (116, .goto 21), (119, .aload_n 0), (120, .getfield 106), (123, .iload 4), (125, .iaload), (126, .iconst 1), (127, .if_icmp .ne 7), (130, .iconst 0), (131, .goto 6), (134, .iload 5), (136, .ineg), (137, .i2l), (138, .ladd), (139, .lstore 9), (141, .aload_n 0), (142, .aload_n 2), (143, .iload 4), (145, .iload 5), (147, .lload 7), (149, .lload 9), (151, .iload 6), (153, .invokevirtual 489), (156, .istore 11), (158, .iload 11), (160, .ifCond .le 6), (163, .iload 11), (165, .ireturn), (166, .aload_n 0), (167, .dup), (168, .getfield 413), (171, .iconst 1), (172, .iadd), (173, .putfield 413), (176, .iinc 5 1), (179, .goto (-155)), (182, .iinc 4 1), (185, .goto (-173)), (188, .iconst 0), (189, .ireturn)]
set_option maxRecDepth 100000 in
theorem kX14_come : chk cX14_come tX14_come = true := by decide +kernel
theorem vX14_come_218 : ∀ w ∈ ([.methodLink RX14 218 yX12_countOf, .instanceMethod yX12_countOf, .selects yX12_countOf.cls yX12_countOf yX12_countOf, .initialized yX12_countOf.cls, .code yX12_countOf cX12_countOf 3 (some .int)] : List Cond), w ∈ lw_good := List.forall_mem_cons.mpr ⟨mgd 1979 (by decide +kernel) (by decide +kernel), List.forall_mem_cons.mpr ⟨mgd 1980 (by decide +kernel) (by decide +kernel), List.forall_mem_cons.mpr ⟨mgd 1981 (by decide +kernel) (by decide +kernel), List.forall_mem_cons.mpr ⟨mgd 138 (by decide +kernel) (by decide +kernel), List.forall_mem_cons.mpr ⟨mgd 1982 (by decide +kernel) (by decide +kernel), fun _ h => absurd h List.not_mem_nil⟩⟩⟩⟩⟩
theorem vX14_come_489 : ∀ w ∈ ([.methodLink RX14 489 yX14_event, .instanceMethod yX14_event, .selects yX14_event.cls yX14_event yX14_event, .initialized yX14_event.cls, .code yX14_event cX14_event 15 (some .int)] : List Cond), w ∈ lw_good := List.forall_mem_cons.mpr ⟨mgd 2409 (by decide +kernel) (by decide +kernel), List.forall_mem_cons.mpr ⟨mgd 2411 (by decide +kernel) (by decide +kernel), List.forall_mem_cons.mpr ⟨mgd 112 (by decide +kernel) (by decide +kernel), List.forall_mem_cons.mpr ⟨mgd 136 (by decide +kernel) (by decide +kernel), List.forall_mem_cons.mpr ⟨mgd 2412 (by decide +kernel) (by decide +kernel), fun _ h => absurd h List.not_mem_nil⟩⟩⟩⟩⟩
set_option maxRecDepth 100000 in
set_option maxHeartbeats 2000000 in
theorem c_rcm (l : Launch) : ∀ (t : Nat) (n : Nat) (F : Nat → Nat × Nat) (z : Nat → Nat) (Y : Nat → Nat → Nat) (R : Rb) (kz : Nat → Nat) (A : List SpR) (D : Dss) (O : List (Nat × Int)) (SY : List Int32) (kC kZ : Nat), Ct l yX14_come cX14_come 12 (some .int) 5 135 (sp_rcm t n F z Y R kz A D O SY kC kZ) := by
  intro t n F z Y R kz A D O SY kC kZ
  refine Ct.of (fX14, nX14, aX14, iX14, lX14, [(218, 0, 2, 1, T_rco), (489, 0, 7, 1, T_revt)], qX14, gX14, []) false tX14_come (fun _ S => look [(12, ([0,2,3,4], I_cm1 t F z Y R kz n A D O SY kC kZ S)), (24, ([0,2,3,4,5], I_cm2 t F z Y R kz n A D O SY kC kZ S)), (63, ([0,2,3,4,5,6], I_cm3 t F z Y R kz n A D O SY kC kZ S)), (141, ([0,2,3,4,5,6,7,9], I_cm4 t F z Y R kz n A D O SY kC kZ S))]) (by decide) (by decide) kX14_come ⟨_, _, rfl⟩ fX14_ok nX14_ok aX14_ok iX14_ok lX14_ok (fun p e R s m args below meth c Q D cy z r A C hR1 hR2 => List.forall_mem_cons.mpr ⟨cOK_use (fun _ _ _ _ _ _ _ _ h => let ⟨sp, h1, h2, h3⟩ := u_rco l _ _ _ _ _ _ _ _ h; ⟨sp, cOK_V C h1 vX14_come_218 ⟨by decide, by decide, by decide +kernel⟩ ⟨by rw [hR1]; decide, by rw [hR2]; decide⟩ (k := 13) (T := TX12) (N := 27) rfl (by decide) h2, h3⟩), List.forall_mem_cons.mpr ⟨cOK_use (fun _ _ _ _ _ _ _ _ h => let ⟨sp, h1, h2, h3⟩ := u_revt l _ _ _ _ _ _ _ _ h; ⟨sp, cOK_V C h1 vX14_come_489 ⟨by decide, by decide, by decide +kernel⟩ ⟨by rw [hR1]; decide, by rw [hR2]; decide⟩ (k := 15) (T := TX14) (N := 52) rfl (by decide) h2, h3⟩), fun _ h => absurd h List.not_mem_nil⟩⟩) qX14_ok gX14_ok rfl ?_ ?_
  · rintro _ S ⟨rfl, hp⟩
    refine ⟨Nat.le_of_ble_eq_true rfl, 300, ?_⟩
    show (isO S 15 t ∧ (pa (mR S 1500 t) fun a_1 => a_1 ∈ mL S ∧ ¬ mK S a_1 < 21 ∧ mK S a_1 < 29 ∧ inR S a_1 (nI n) ∧ (∃ k1, I_cm1 t F z Y R kz n A D O SY kC kZ S k1 [(0, .inr (.inr (some t))), (2, .inr (.inr (eR S a_1 (nI n).toNatClampNeg))), (3, .inl (0 : Int32)), (4, .inl (0 : Int32))] [] S 0 0)))
    obtain ⟨hM, hn, hGT, hP, hB, h37, hK⟩ := hp
    have r0 := hM 1 0 (by decide)
    have cn : (nI n).toNatClampNeg = n := nI_clamp (by omega)
    refine ⟨(hM 0).1, pa_i r0.1 ⟨r0.2.2.1.1, by rw [r0.2.2.1.2]; decide, by rw [r0.2.2.1.2]; decide, inRn (N := 4) r0.2.2.2 hn (by decide), 100000 * A.length, A.length, 0, 0, F, z, Y, R.Q.G n, R.Q.T n, kz, rfl, Nat.zero_add _, ⟨by rw [sG_id]; exact hM, rH.rf, fun _ => rfl, hGT, Nat.le_refl _, by rw [Nat.sub_self]; exact h37, fun _ _ => rfl⟩, ⟨fun _ _ _ _ h => h, Nat.zero_le _, Nat.zero_le _, hK⟩, hB.2.2.2.2.2.2.2, ?_, rfl⟩⟩
    rw [cn, (hM 2 n hn).1]; rfl
  · intro av S hpre pc I hI k lo st S1 cs sl h
    obtain ⟨rfl, hp⟩ := hpre
    have hm := look_in hI
    simp only [List.mem_cons, List.not_mem_nil, or_false] at hm
    rcases hm with hm | hm | hm | hm
    · cases hm
      obtain ⟨r, s, ch, F1, z1, Y1, G1, T1, kz1, rfl, hsr, hV, hC, hch, rfl, rfl⟩ := h
      refine ⟨300, ?_⟩
      show (isO S1 15 t ∧ (((mI S1 1549 t) ≤ (nI s) → (([] : List MV) = [] ∧ mret (some .int) (sp_rcm t n F z Y R kz A D O SY kC kZ) [.inr (.inr (some t)), .inl (nI n)] S (some (.inl (0 : Int32))) S1 cs sl)) ∧ (¬ (mI S1 1549 t) ≤ (nI s) → (∃ k1, k1 < 100000 * r ∧ I_cm2 t F z Y R kz n A D O SY kC kZ S k1 [(0, .inr (.inr (some t))), (2, .inr (.inr (some (Y n 0)))), (3, .inl (nI ch)), (4, .inl (nI s)), (5, .inl (0 : Int32))] [] S1 cs sl))))
      obtain ⟨hM, hn, hGT, hP, hB, h37, hK⟩ := hp
      have hk40 : kz 40 ≤ 131072 := (hM 11).2.2.2.1
      have hAl := hP.1.2.1
      have e49 : mI S1 1549 t = nI A.length := (hV.2.1.2.2.1 _ (by decide)).trans hP.1.1
      rw [e49]
      refine ⟨(hV.1 0).1, if_le (by omega) (by omega) (fun w => ?_) (fun w => ?_)⟩
      · have r0 : r = 0 := by omega
        subst r0
        exact ⟨rfl, trivial, ⟨0, rfl, 0, F1, z1, Y1, G1, T1, kz1, rfl, by decide, hC.1 _ _ _ _ ⟨rfl, rfl, rfl, rfl⟩, hV⟩, hC.2.1, hC.2.2.1⟩
      · obtain ⟨r, rfl⟩ : ∃ r', r = r' + 1 := ⟨r - 1, by omega⟩
        have hm : A.getD s (0, 0, 0) ∈ A := by
          rw [List.getD_eq_getElem?_getD, List.getElem?_eq_getElem w]
          exact List.getElem_mem w
        have hl := (hB.2.2.1 _ hm).2.2.2
        exact ⟨100000 * r + 50000 + 4 * (A.getD s (0, 0, 0)).2.2 + 3, by omega, r, s, ch, 0, (A.getD s (0, 0, 0)).2.2, F1, z1, Y1, G1, T1, kz1, rfl, by omega, Nat.zero_add _, hV, hC, hch, rfl, rfl⟩
    · cases hm
      obtain ⟨r, s, ch, k9, h, F1, z1, Y1, G1, T1, kz1, rfl, hsr, hkh, hV, hC, hch, rfl, rfl⟩ := h
      refine ⟨300, ?_⟩
      show (isO S1 15 t ∧ (pa (mR S1 1545 t) fun a_1 => isO S1 18 a_1 ∧ inR S1 a_1 (nI s) ∧ ((0 ≤ (lg_cmp ((nI k9).toInt64) (eJ S1 a_1 (nI s).toNatClampNeg)) → (∃ k1, k1 < 100000 * r + 50000 + 4 * h + 3 ∧ I_cm1 t F z Y R kz n A D O SY kC kZ S k1 [(0, .inr (.inr (some t))), (2, .inr (.inr (some (Y n 0)))), (3, .inl (nI ch)), (4, .inl ((nI s) + (1 : Int32)))] [] S1 cs sl)) ∧ (¬ 0 ≤ (lg_cmp ((nI k9).toInt64) (eJ S1 a_1 (nI s).toNatClampNeg)) → (isO S1 15 t ∧ (pa (mR S1 1541 t) fun a_2 => ∃ v_3 : Int32, (isO S1 17 a_2 ∧ inR S1 a_2 (nI s) ∧ v_3 = eI S1 a_2 (nI s).toNatClampNeg ∨ a_2 = (mQ S1).1 ∧ vp_in (nI s) 16 ∧ v_3 = mRem (nI s).toNatClampNeg) ∧ ((¬ v_3 = 0 → (∃ k1, k1 < 100000 * r + 50000 + 4 * h + 3 ∧ I_cm3 t F z Y R kz n A D O SY kC kZ S k1 [(0, .inr (.inr (some t))), (2, .inr (.inr (some (Y n 0)))), (3, .inl (nI ch)), (4, .inl (nI s)), (5, .inl (nI k9)), (6, .inl (0 : Int32))] [] S1 cs sl)) ∧ (v_3 = 0 → (isO S1 15 t ∧ (pa (mR S1 1517 t) fun a_4 => ∃ v_5 : Int32, (isO S1 17 a_4 ∧ inR S1 a_4 (nI ch) ∧ v_5 = eI S1 a_4 (nI ch).toNatClampNeg ∨ a_4 = (mQ S1).1 ∧ vp_in (nI ch) 16 ∧ v_5 = mRem (nI ch).toNatClampNeg) ∧ (∃ k1, k1 < 100000 * r + 50000 + 4 * h + 3 ∧ I_cm3 t F z Y R kz n A D O SY kC kZ S k1 [(0, .inr (.inr (some t))), (2, .inr (.inr (some (Y n 0)))), (3, .inl ((nI ch) + (1 : Int32))), (4, .inl (nI s)), (5, .inl (nI k9)), (6, .inl v_5)] [] S1 cs sl)))))))))))
      obtain ⟨hM, hn, hGT, hP, hB, h37, hK⟩ := hp
      have hk40 : kz 40 ≤ 131072 := (hM 11).2.2.2.1
      have hAl := hP.1.2.1
      have hs : s < A.length := by omega
      have hm : A.getD s (0, 0, 0) ∈ A := by
        rw [List.getD_eq_getElem?_getD, List.getElem?_eq_getElem hs]
        exact List.getElem_mem hs
      obtain ⟨c1, c2, c3, c4⟩ := hB.2.2.1 _ hm
      obtain ⟨o1, o2, o3, o4⟩ := hB.2.2.2.2.2.1 s hs
      have cs9 : (nI s).toNatClampNeg = s := nI_clamp (by omega)
      obtain ⟨-, e45, m45, q45, n45⟩ := hV.row hM (j := 45) (by decide) (by decide)
      obtain ⟨e41, -, m41, q41, n41⟩ := hV.row hM (j := 41) (by decide) (by decide)
      have n45 : mN S1 (z1 45) = kz 40 := n45
      have n41 : mN S1 (z1 41) = kz 40 := n41
      have v45 : eJ S1 (z1 45) (nI s).toNatClampNeg = lN (A.getD s (0, 0, 0)).2.2 := by rw [cs9, e45]; exact (hP.1.2.2 s hs).2.2
      refine ⟨(hV.1 0).1, pa_i m45 ⟨q45, inRn n45 (by omega) (by omega), ?_⟩⟩
      rw [v45, nI_l (by omega)]
      have hgg : 0 ≤ lg_cmp (lN k9) (lN (A.getD s (0, 0, 0)).2.2) ↔ (A.getD s (0, 0, 0)).2.2 ≤ k9 := lgg (by omega) (by omega)
      refine ⟨fun w => ?_, fun w => ?_⟩
      · have h0 : h = 0 := by have := hgg.1 w; omega
        subst h0
        refine ⟨100000 * r, by omega, r, s + 1, ch, F1, z1, Y1, G1, T1, kz1, rfl, by omega, hV, ?_, ?_, by rw [nI_1], rfl⟩
        · have e : rvOf A D O s 0 k9 (SY.drop ch) ++ rvAll A D O r (s + 1) (if (O.getD s (0, 0)).1 = 0 then (SY.drop ch).drop 0 else SY.drop ch) = rvAll A D O r (s + 1) (SY.drop ch) := by
            rw [List.drop_zero, ite_self]; rfl
          rw [e] at hC; exact hC
        · rw [ite_self, Nat.zero_add] at hch; exact hch
      · have w2 : k9 < (A.getD s (0, 0, 0)).2.2 := Nat.lt_of_not_le (fun q => w (hgg.2 q))
        obtain ⟨h, rfl⟩ : ∃ h', h = h' + 1 := ⟨h - 1, by omega⟩
        refine ⟨(hV.1 0).1, rdI (v := nI (O.getD s (0, 0)).1) m41 q41 (inRn n41 (by omega) (by omega)) (by rw [cs9, e41]; exact (hP.2.2.1 s (by rw [hB.2.1]; exact hs)).1) (if_ne (b := 0) (by omega) (by decide) (fun w0 => ?_) (fun w0 => ?_))⟩
        · rw [if_neg w0] at hC hch
          refine ⟨100000 * r + 50000 + 4 * h + 6, by omega, r, s, ch, k9, h, none, 0, F1, z1, Y1, G1, T1, kz1, rfl, hsr, by omega, Or.inr ⟨w0, o1, rfl⟩, hV, ?_, by rw [if_neg w0]; exact hch, rfl, rfl⟩
          rw [if_neg w0]
          have e : rvOf A D O s (h + 1) k9 (SY.drop ch) = rvE A D O s k9 none :: rvOf A D O s h (k9 + 1) (SY.drop ch) := by
            rw [rvOf, if_neg w0, if_neg w0]
          rw [e, List.cons_append] at hC
          exact hC
        · rw [if_pos w0] at hC hch
          have hcl : ch < SY.length := by omega
          have r17 := hV.row hM (j := 17) (by decide) (by decide)
          have n17 : mN S1 (z1 17) = 32768 := r17.2.2.2.2
          have hTx := hP.2.2.2
          have hsl := hTx.2.1
          have cc : (nI ch).toNatClampNeg = ch := nI_clamp (by omega)
          have e17 : eI S1 (z1 17) (nI ch).toNatClampNeg = SY.getD ch 0 := by rw [cc, r17.1]; exact hTx.2.2 ch hcl
          have hmS : SY.getD ch 0 ∈ SY := by
            rw [List.getD_eq_getElem?_getD, List.getElem?_eq_getElem hcl]
            exact List.getElem_mem hcl
          obtain ⟨x, hx, hx2⟩ := hB.2.2.2.2.2.2.1 _ hmS
          have ed : SY.drop ch = SY.getD ch 0 :: SY.drop (ch + 1) := by
            rw [List.drop_eq_getElem_cons hcl, List.getD_eq_getElem?_getD, List.getElem?_eq_getElem hcl]; rfl
          refine ⟨(hV.1 0).1, rdI (v := SY.getD ch 0) r17.2.2.1 r17.2.2.2.1 (inRn n17 (by omega) (by decide)) e17 ⟨100000 * r + 50000 + 4 * h + 6, by omega, r, s, ch + 1, k9, h, some x, SY.getD ch 0, F1, z1, Y1, G1, T1, kz1, rfl, hsr, by omega, Or.inl ⟨w0, x, rfl, hx2, hx⟩, hV, ?_, by rw [if_pos w0]; omega, by rw [nI_1], rfl⟩⟩
          rw [if_pos w0]
          have e : rvOf A D O s (h + 1) k9 (SY.drop ch) = rvE A D O s k9 (some x) :: rvOf A D O s h (k9 + 1) (SY.drop (ch + 1)) := by
            rw [rvOf, if_pos w0, if_pos w0, ed]
            show rvE A D O s k9 (some (SY.getD ch 0).toNatClampNeg) :: _ = _
            rw [hx, nI_clamp (by omega)]; rfl
          have e2 : (SY.drop ch).drop (h + 1) = (SY.drop (ch + 1)).drop h := by rw [ed]; rfl
          rw [e, e2, List.cons_append] at hC
          exact hC
    · cases hm
      obtain ⟨r, s, ch, k9, h, oc, c, F1, z1, Y1, G1, T1, kz1, rfl, hsr, hkh, hX, hV, hC, hch, rfl, rfl⟩ := h
      refine ⟨300, ?_⟩
      show (isO S1 15 t ∧ (pa (mR S1 1544 t) fun a_1 => isO S1 18 a_1 ∧ inR S1 a_1 (nI s) ∧ (isO S1 15 t ∧ (pa (mR S1 1540 t) fun a_2 => ∃ v_3 : Int32, (isO S1 17 a_2 ∧ inR S1 a_2 (nI s) ∧ v_3 = eI S1 a_2 (nI s).toNatClampNeg ∨ a_2 = (mQ S1).1 ∧ vp_in (nI s) 16 ∧ v_3 = mRem (nI s).toNatClampNeg) ∧ (0 = 0 ∧ (∃ (a_4 : Nat), v_3 = nI a_4 ∧ (∃ (F_5 : Nat → Nat × Nat) (i_6 : Nat) (y_7 : Nat → Nat) (G_8 : Gr) (T_9 : Tr), ((Y n 0) = y_7 0 ∧ RG S1 F_5 i_6 y_7 G_8 T_9 ∧ a_4 < 256) ∧ cs ≤ kC ∧ sl ≤ kZ ∧ (((0 ≤ (lg_cmp ((eJ S1 a_1 (nI s).toNatClampNeg) + ((nI k9).toInt64)) ((nI (agE G_8 a_4).length).toInt64)) → (isO S1 15 t ∧ (pa (mR S1 1546 t) fun a_11 => isO S1 18 a_11 ∧ inR S1 a_11 (nI s) ∧ (isO S1 15 t ∧ (pa (mR S1 1541 t) fun a_12 => ∃ v_13 : Int32, (isO S1 17 a_12 ∧ inR S1 a_12 (nI s) ∧ v_13 = eI S1 a_12 (nI s).toNatClampNeg ∨ a_12 = (mQ S1).1 ∧ vp_in (nI s) 16 ∧ v_13 = mRem (nI s).toNatClampNeg) ∧ ((¬ v_13 = 0 → (isO S1 15 t ∧ (pa (mR S1 1541 t) fun a_14 => ∃ v_15 : Int32, (isO S1 17 a_14 ∧ inR S1 a_14 (nI s) ∧ v_15 = eI S1 a_14 (nI s).toNatClampNeg ∨ a_14 = (mQ S1).1 ∧ vp_in (nI s) 16 ∧ v_15 = mRem (nI s).toNatClampNeg) ∧ ((¬ v_15 = (1 : Int32) → (∃ k1, k1 < 100000 * r + 50000 + 4 * h + 6 ∧ I_cm4 t F z Y R kz n A D O SY kC kZ S k1 [(0, .inr (.inr (some t))), (2, .inr (.inr (some (Y n 0)))), (3, .inl (nI ch)), (4, .inl (nI s)), (5, .inl (nI k9)), (6, .inl c), (7, .inr (.inl ((eJ S1 a_1 (nI s).toNatClampNeg) + ((nI k9).toInt64)))), (9, .inr (.inl ((eJ S1 a_11 (nI s).toNatClampNeg) + ((-(nI k9)).toInt64))))] [] S1 cs sl)) ∧ (v_15 = (1 : Int32) → (∃ k1, k1 < 100000 * r + 50000 + 4 * h + 6 ∧ I_cm4 t F z Y R kz n A D O SY kC kZ S k1 [(0, .inr (.inr (some t))), (2, .inr (.inr (some (Y n 0)))), (3, .inl (nI ch)), (4, .inl (nI s)), (5, .inl (nI k9)), (6, .inl c), (7, .inr (.inl ((eJ S1 a_1 (nI s).toNatClampNeg) + ((nI k9).toInt64)))), (9, .inr (.inl ((eJ S1 a_11 (nI s).toNatClampNeg) + ((0 : Int32).toInt64))))] [] S1 cs sl)))))) ∧ (v_13 = 0 → (∃ k1, k1 < 100000 * r + 50000 + 4 * h + 6 ∧ I_cm4 t F z Y R kz n A D O SY kC kZ S k1 [(0, .inr (.inr (some t))), (2, .inr (.inr (some (Y n 0)))), (3, .inl (nI ch)), (4, .inl (nI s)), (5, .inl (nI k9)), (6, .inl c), (7, .inr (.inl ((eJ S1 a_1 (nI s).toNatClampNeg) + ((nI k9).toInt64)))), (9, .inr (.inl ((eJ S1 a_11 (nI s).toNatClampNeg) + ((nI k9).toInt64))))] [] S1 cs sl)))))))) ∧ (¬ 0 ≤ (lg_cmp ((eJ S1 a_1 (nI s).toNatClampNeg) + ((nI k9).toInt64)) ((nI (agE G_8 a_4).length).toInt64)) → (∃ k1, k1 < 100000 * r + 50000 + 4 * h + 6 ∧ I_cm2 t F z Y R kz n A D O SY kC kZ S k1 [(0, .inr (.inr (some t))), (2, .inr (.inr (some (Y n 0)))), (3, .inl (nI ch)), (4, .inl (nI s)), (5, .inl ((nI k9) + (1 : Int32)))] [] S1 cs sl)))))))))))
      obtain ⟨hM, hn, hGT, hP, hB, h37, hK⟩ := hp
      have hk40 : kz 40 ≤ 131072 := (hM 11).2.2.2.1
      have hAl := hP.1.2.1
      have hs : s < A.length := by omega
      have hm : A.getD s (0, 0, 0) ∈ A := by
        rw [List.getD_eq_getElem?_getD, List.getElem?_eq_getElem hs]
        exact List.getElem_mem hs
      obtain ⟨c1, c2, c3, c4⟩ := hB.2.2.1 _ hm
      obtain ⟨o1, o2, o3, o4⟩ := hB.2.2.2.2.2.1 s hs
      have cs9 : (nI s).toNatClampNeg = s := nI_clamp (by omega)
      have g := hV.gt hn
      have h8 := agE_8192 g.ok (A.getD s (0, 0, 0)).1
      obtain ⟨e40, -, m40, q40, n40⟩ := hV.row hM (j := 40) (by decide) (by decide)
      obtain ⟨-, e44, m44, q44, n44⟩ := hV.row hM (j := 44) (by decide) (by decide)
      obtain ⟨-, e46, m46, q46, n46⟩ := hV.row hM (j := 46) (by decide) (by decide)
      obtain ⟨e41, -, m41, q41, n41⟩ := hV.row hM (j := 41) (by decide) (by decide)
      have n40 : mN S1 (z1 40) = kz 40 := n40
      have n44 : mN S1 (z1 44) = kz 40 := n44
      have n46 : mN S1 (z1 46) = kz 40 := n46
      have n41 : mN S1 (z1 41) = kz 40 := n41
      have v44 : eJ S1 (z1 44) (nI s).toNatClampNeg = lN (A.getD s (0, 0, 0)).2.1 := by rw [cs9, e44]; exact (hP.1.2.2 s hs).2.1
      have hOl : s < O.length := by rw [hB.2.1]; exact hs
      have v46 : eJ S1 (z1 46) (nI s).toNatClampNeg = lZ (O.getD s (0, 0)).2 := by rw [cs9, e46]; exact (hP.2.2.1 s hOl).2
      have v41 : eI S1 (z1 41) (nI s).toNatClampNeg = nI (O.getD s (0, 0)).1 := by rw [cs9, e41]; exact (hP.2.2.1 s hOl).1
      have i41 : inR S1 (z1 41) (nI s) := inRn n41 (by omega) (by omega)
      have th0 : 0 ≤ thO (O.getD s (0, 0)) k9 := by
        unfold thO
        split
        · omega
        · split
          · omega
          · have := o4 (by omega)
            omega
      have vn : lN (A.getD s (0, 0, 0)).2.1 + lN k9 = lN (rvE A D O s k9 oc).2.1 := lN_plus _ _
      refine ⟨(hV.1 0).1, pa_i m44 ⟨q44, inRn n44 (by omega) (by omega), (hV.1 0).1, rdI (v := nI (A.getD s (0, 0, 0)).1) m40 q40 (inRn n40 (by omega) (by omega)) (by rw [cs9, e40]; exact (hP.1.2.2 s hs).1) ⟨rfl, _, rfl, F1, 101 + n, Y1 n, G1, T1, ⟨(hV.2.2.1 n).symm, g, c1⟩, hC.2.1, hC.2.2.1, ?_⟩⟩⟩
      rw [v44, nI_l (by omega), nI_l (by omega), vn]
      have hgg : 0 ≤ lg_cmp (lN (rvE A D O s k9 oc).2.1) (lN (agE G1 (A.getD s (0, 0, 0)).1).length) ↔ (agE G1 (A.getD s (0, 0, 0)).1).length ≤ (rvE A D O s k9 oc).2.1 := lgg (by show (A.getD s (0, 0, 0)).2.1 + k9 < _; omega) (by omega)
      refine ⟨fun w => ?_, fun w => ?_⟩
      · have hnk : ¬ (rvE A D O s k9 oc).2.1 < (agE G1 (rvE A D O s k9 oc).1).length := Nat.not_lt.2 (hgg.1 w)
        have fin : ∀ v, v = lZ (thO (O.getD s (0, 0)) k9) → ∃ k1, k1 < 100000 * r + 50000 + 4 * h + 6 ∧ I_cm4 t F z Y R kz n A D O SY kC kZ S k1 [(0, .inr (.inr (some t))), (2, .inr (.inr (some (Y n 0)))), (3, .inl (nI ch)), (4, .inl (nI s)), (5, .inl (nI k9)), (6, .inl c), (7, .inr (.inl (lN (rvE A D O s k9 oc).2.1))), (9, .inr (.inl v))] [] S1 cs sl := fun v ev => ⟨100000 * r + 50000 + 4 * h + 5, by omega, r, s, ch, k9, h, oc, c, F1, z1, Y1, G1, T1, kz1, rfl, hsr, hkh, hX, hnk, hV, hC, hch, by rw [ev, lZ_N th0]; rfl, rfl⟩
        refine ⟨(hV.1 0).1, pa_i m46 ⟨q46, inRn n46 (by omega) (by omega), (hV.1 0).1, rdI (v := nI (O.getD s (0, 0)).1) m41 q41 i41 v41 ?_⟩⟩
        rw [v46]
        refine if_ne (b := 0) (by omega) (by decide) (fun w0 => ⟨(hV.1 0).1, rdI (v := nI (O.getD s (0, 0)).1) m41 q41 i41 v41 (if_ne (b := 1) (by omega) (by decide) (fun w1 => fin _ ?_) (fun w1 => fin _ ?_))⟩) (fun w0 => fin _ ?_)
        · rw [lZ_ng (by omega), lZ_add]
          unfold thO
          rw [if_neg w0, if_neg w1]
        · rw [show ((0 : Int32).toInt64) = lZ 0 from rfl, lZ_add]
          unfold thO
          rw [if_neg w0, if_pos w1]
        · rw [lN_Z, lZ_add]
          unfold thO
          rw [if_pos w0]
      · have hkn : (rvE A D O s k9 oc).2.1 < (agE G1 (rvE A D O s k9 oc).1).length := Nat.lt_of_not_le (fun q => w (hgg.2 q))
        refine ⟨100000 * r + 50000 + 4 * h + 3, by omega, r, s, ch, k9 + 1, h, F1, z1, Y1, G1, T1, kz1, rfl, hsr, by omega, hV, ⟨fun G' T' kz' f hr => hC.1 G' T' kz' f (Or.inl ⟨hkn, hr⟩), hC.2.1, hC.2.2.1, hC.2.2.2.1 hkn⟩, hch, by rw [nI_1], rfl⟩
    · cases hm
      obtain ⟨r, s, ch, k9, h, oc, c, F1, z1, Y1, G1, T1, kz1, rfl, hsr, hkh, hX, hnk, hV, hC, hch, rfl, rfl⟩ := h
      refine ⟨300, ?_⟩
      show (0 = 0 ∧ (∃ (s_1 : Nat), nI s = nI s_1 ∧ (∃ (k9_2 : Nat), nI k9 = nI k9_2 ∧ (∃ (F_3 : Nat → Nat × Nat) (z_4 : Nat → Nat) (Y_5 : Nat → Nat → Nat) (R_6 : Rb) (kz_7 : Nat → Nat) (n_8 a_9 nu_10 ix_11 kd_12 : Nat) (PP_13 : List (Nat × Nat)) (oc_14 : Option Nat), (MD S1 F_3 t z_4 Y_5 R_6 kz_7 ∧ (Y n 0) = Y_5 n_8 0 ∧ (lN (rvE A D O s k9 oc).2.1) = lN nu_10 ∧ (lN (rvE A D O s k9 oc).2.2.1) = lN ix_11 ∧ evD S1 z_4 kz_7 s_1 k9_2 a_9 nu_10 kd_12 PP_13 ∧ evP R_6 n_8 a_9 nu_10 ix_11 kd_12 k9_2 PP_13 oc_14 c) ∧ cs + (nc_e1 kz_7 (R_6.Q.G n_8) a_9 nu_10 ix_11 PP_13 oc_14) ≤ kC ∧ sl + (nc_e2 kz_7 (R_6.Q.G n_8) a_9 nu_10 ix_11 PP_13 oc_14) ≤ kZ ∧ (∀ (x_16 : Int32) (S_15 : MM), (evQ S1 S_15 F_3 t z_4 Y_5 R_6 kz_7 n_8 a_9 nu_10 ix_11 PP_13 oc_14 x_16) → ((x_16 ≤ 0 → (isO S_15 15 t ∧ (True ∧ (isO S_15 15 t ∧ (∃ k1, k1 < 100000 * r + 50000 + 4 * h + 5 ∧ I_cm2 t F z Y R kz n A D O SY kC kZ S k1 [(0, .inr (.inr (some t))), (2, .inr (.inr (some (Y n 0)))), (3, .inl (nI ch)), (4, .inl (nI s)), (5, .inl ((nI k9) + (1 : Int32)))] [] (sI S_15 1537 t ((mI S_15 1537 t) + (1 : Int32))) (cs + (nc_e1 kz_7 (R_6.Q.G n_8) a_9 nu_10 ix_11 PP_13 oc_14)) (sl + (nc_e2 kz_7 (R_6.Q.G n_8) a_9 nu_10 ix_11 PP_13 oc_14))))))) ∧ (¬ x_16 ≤ 0 → (([] : List MV) = [] ∧ mret (some .int) (sp_rcm t n F z Y R kz A D O SY kC kZ) [.inr (.inr (some t)), .inl (nI n)] S (some (.inl x_16)) S_15 (cs + (nc_e1 kz_7 (R_6.Q.G n_8) a_9 nu_10 ix_11 PP_13 oc_14)) (sl + (nc_e2 kz_7 (R_6.Q.G n_8) a_9 nu_10 ix_11 PP_13 oc_14))))))))))
      obtain ⟨hM, hn, hGT, hP, hB, h37, hK⟩ := hp
      have hs : s < A.length := by omega
      obtain ⟨d1, d2⟩ := dt_ev hV hM hn hP hB hs (by omega) hX hnk
      have eG : (R.sG n G1 T1).Q.G n = G1 := upF_s
      have eT : (R.sG n G1 T1).Q.T n = T1 := upF_s
      obtain ⟨t1, t2, t3, t4⟩ := id hC
      obtain ⟨k1, k2, k3⟩ := t4.2 hnk
      have hg := hV.gt hn
      have hg8 := hg.ok.hn
      refine ⟨rfl, s, rfl, k9, rfl, F1, z1, Y1, R.sG n G1 T1, kz1, n, (rvE A D O s k9 oc).1, (rvE A D O s k9 oc).2.1, (rvE A D O s k9 oc).2.2.1, (O.getD s (0, 0)).1, (rvE A D O s k9 oc).2.2.2.1, (rvE A D O s k9 oc).2.2.2.2, ⟨hV.1, (hV.2.2.1 n).symm, rfl, rfl, d1, d2⟩, by rw [eG]; omega, by rw [eG]; omega, fun x S15 hx => ?_⟩
      obtain ⟨f, F2, z2, Y2, G2, T2, rfl, hf8, hS, hMD, hH, hY⟩ := hx
      rw [eG, eT] at hS
      rw [eG, sG_sG] at hMD
      rw [eG]
      have hkz : ∀ k, k ≠ 24 → evZ kz1 G1 (rvE A D O s k9 oc).1 (rvE A D O s k9 oc).2.1 (rvE A D O s k9 oc).2.2.2.1.length k = kz k := fun k hk => (evZ_o hk).trans (hV.2.2.2.2.2.2 k hk)
      have hH2 := hV.2.1.tr (hH.mono (fun k hk => hk) (fun f hf => by cases hf))
      have e37 : mI S15 1537 t = nI (G1.n - (R.Q.G n).n) := (hH.2.2.1 _ (by decide)).trans hV.2.2.2.2.2.1
      have hgn := hV.2.2.2.2.1
      refine ⟨fun w => ?_, fun w => ?_⟩
      · have f0 : f = 0 := by
          have := (nI_leI (b := 0) (by omega) (by decide)).1 w
          omega
        subst f0
        have hst : StpE G1 T1 (rvE A D O s k9 oc).1 _ (rvE A D O s k9 oc).2.2.2.2 (rvE A D O s k9 oc).2.2.1 (slt G1 (rvE A D O s k9 oc).1) G2 T2 := (hS.2.resolve_left (fun q => q.1 rfl)).2.choose_spec.2.2
        have hn1 := hst.cnt1
        have hGT2 : GT G2 T2 := by
          obtain ⟨e, -, -, -, -, -, -, -, -, q, -⟩ := hst
          exact q
        have k37 : rK [] [1537] S15 (sI S15 1537 t (nI (G2.n - (R.Q.G n).n))) t z2 := rK.sf 1537 _
        rw [e37, show nI (G1.n - (R.Q.G n).n) + 1 = nI (G2.n - (R.Q.G n).n) from by rw [nI_1]; exact congrArg nI (by omega)]
        refine ⟨(hMD 0).1, trivial, (hMD 0).1, 100000 * r + 50000 + 4 * h + 3, by omega, r, s, ch, k9 + 1, h, F2, z2, Y2, G2, T2, _, rfl, hsr, by omega, ⟨k37.md hMD (fun k hk => by cases hk) (by decide), hH2.tr ((k37.rg.rh n).mono (fun k hk => by cases hk) (fun f hf => hf)), fun q => (hY q).trans (hV.2.2.1 q), hGT2, by omega, by rw [mI_sI, if_pos ⟨rfl, rfl⟩], hkz⟩, ⟨fun G' T' kz' f hr => t1 G' T' kz' f (Or.inr ⟨hnk, G2, T2, 0, hS, Or.inr ⟨rfl, hr⟩⟩), by omega, by omega, ?_⟩, hch, by rw [nI_1], rfl⟩
        have := k3 G2 T2 hS
        rw [Nat.sub_sub, Nat.sub_sub] at this
        exact this
      · have f0 : f ≠ 0 := fun e => w (by rw [e]; exact Int32.le_refl _)
        have hGG : G2 = G1 ∧ T2 = T1 := (hS.2.resolve_right (fun q => f0 q.1)).2
        refine ⟨rfl, trivial, ⟨nI f, rfl, f, F2, z2, Y2, G2, T2, _, rfl, hf8, t1 _ _ _ _ (Or.inr ⟨hnk, G2, T2, f, hS, Or.inl ⟨f0, rfl, rfl, rfl, rfl⟩⟩), hMD, hH2, fun q => (hY q).trans (hV.2.2.1 q), by rw [hGG.1, hGG.2]; exact hV.2.2.2.1, by rw [hGG.1]; exact hgn, by rw [hGG.1]; exact e37, hkz⟩, ?_, ?_⟩
        · show cs + _ ≤ kC
          omega
        · show sl + _ ≤ kZ
          omega
theorem u_rcm (l : Launch) : Us l yX14_come cX14_come 12 (some .int) 5 135 15 T_rcm := by
  intro Rc Rs av S cs sl K Kx h
  unfold T_rcm at h
  split at h
  · rename_i t_o n_v
    obtain ⟨t, rfl, h_1⟩ := pa_of h
    obtain ⟨n, rfl, h_2⟩ := h_1
    obtain ⟨F, z, Y, R, kz, A, D, O, SY, kC, kZ, hp, hc, hs, hk⟩ := h_2
    refine ⟨(sp_rcm t n F z Y R kz A D O SY kC kZ), c_rcm l t n F z Y R kz A D O SY kC kZ, fun _ _ h9 => ⟨_, _, h9.1, (h9.2.1 0).1⟩, ⟨rfl, hp⟩, hc, hs, fun v9 S' h8 => by
      obtain ⟨v8, h7, h8⟩ := h8
      cases h7
      exact hk _ _ h8, fun _ _ q => q.elim⟩
  · exact h.elim
