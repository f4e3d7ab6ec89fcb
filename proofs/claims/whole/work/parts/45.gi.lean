/-! ===== A graph in the memory ===== -/
/-- the places of a list that has got n objects one by one; what its rows have cost -/
def capF : Nat → Nat
  | 0 => 0
  | n + 1 => alK (capF n) n
def capC : Nat → Nat
  | 0 => 0
  | n + 1 => capC n + alC (capF n) n
def capZ : Nat → Nat
  | 0 => 0
  | n + 1 => capZ n + alZ (capF n) n
theorem capF_10 : ∀ n, (n = 0 ∧ capF n = 0) ∨ (n ≤ capF n ∧ 10 ≤ capF n ∧ capF n ≤ 2 * n + 10)
  | 0 => Or.inl ⟨rfl, rfl⟩
  | n + 1 => by
    right
    rw [capF, alK]
    rcases capF_10 n with ⟨h1, h2⟩ | ih
    · rw [h2, h1, if_pos rfl, gcap, if_pos rfl]; omega
    · split
      · rw [gcap, if_neg (by omega)]; omega
      · omega
theorem capF_le (n : Nat) : n ≤ capF n ∧ capF n ≤ 2 * n + 10 := by
  rcases capF_10 n with ⟨h1, h2⟩ | ih
  · omega
  · omega
/-- the events of a slot, in order -/
def evL (G : Gr) (s : Nat) : List Nat := (List.range G.n).filter (fun k => decide ((G.ev k).sl = s))
theorem evL_cnt (G : Gr) (s : Nat) : ∀ N, ((List.range N).filter (fun k => decide ((G.ev k).sl = s))).length = G.cnt N s
  | 0 => rfl
  | N + 1 => by
    rw [List.range_succ, List.filter_append, List.length_append, evL_cnt G s N, Gr.cnt]
    by_cases h : (G.ev N).sl = s
    · rw [if_pos h]; simp [h]
    · rw [if_neg h]; simp [h]
theorem evL_len (G : Gr) (s : Nat) : (evL G s).length = G.cn s := evL_cnt G s G.n
theorem evL_atN {G : Gr} (h : G.ok) (s : Nat) : ∀ N, N ≤ G.n → ∀ j k, ((List.range N).filter (fun k => decide ((G.ev k).sl = s)))[j]? = some k ↔ k < N ∧ (G.ev k).sl = s ∧ (G.ev k).nu = j
  | 0, _, j, k => by simp
  | N + 1, hN, j, k => by
    have ih := evL_atN h s N (by omega)
    have hl := evL_cnt G s N
    rw [List.range_succ, List.filter_append, List.getElem?_append]
    have hnu := h.nu1 N (by omega)
    by_cases q : (G.ev N).sl = s
    · have e1 : [N].filter (fun k => decide ((G.ev k).sl = s)) = [N] := by simp [q]
      rw [e1]
      split
      · rename_i hj
        rw [ih]
        constructor
        · exact fun ⟨a, b, c⟩ => ⟨by omega, b, c⟩
        · intro ⟨a, b, c⟩
          refine ⟨Nat.lt_of_le_of_ne (by omega) (fun e => ?_), b, c⟩
          subst e
          rw [q] at hnu; omega
      · rename_i hj
        rw [hl] at hj ⊢
        rw [q] at hnu
        constructor
        · intro z
          have z1 : j - G.cnt N s = 0 := by
            rcases Nat.eq_zero_or_pos (j - G.cnt N s) with w | w
            · exact w
            · rw [List.getElem?_eq_none (by simp; omega)] at z; cases z
          rw [z1] at z
          simp at z
          subst z
          exact ⟨by omega, q, by omega⟩
        · intro ⟨a, b, c⟩
          have hk : k = N := by
            rcases Nat.lt_or_ge k N with w | w
            · have h1 := h.nu1 k (by omega)
              rw [b] at h1
              have h2 : G.cnt (k + 1) s ≤ G.cnt N s := Gr.cnt_mono s w
              rw [Gr.cnt, if_pos b] at h2; omega
            · omega
          subst hk
          rw [show j - G.cnt k s = 0 by omega]; rfl
    · have e1 : [N].filter (fun k => decide ((G.ev k).sl = s)) = [] := by simp [q]
      rw [e1]
      split
      · rw [ih]
        constructor
        · exact fun ⟨a, b, c⟩ => ⟨by omega, b, c⟩
        · intro ⟨a, b, c⟩
          exact ⟨Nat.lt_of_le_of_ne (by omega) (fun e => q (e ▸ b)), b, c⟩
      · rename_i hj
        rw [hl] at hj
        simp only [List.getElem?_nil]
        constructor
        · intro z; cases z
        · intro ⟨a, b, c⟩
          exfalso
          have hk : k < N := Nat.lt_of_le_of_ne (by omega) (fun e => q (e ▸ b))
          have h1 := h.nu1 k (by omega)
          rw [b] at h1
          have h2 : G.cnt (k + 1) s ≤ G.cnt N s := Gr.cnt_mono s hk
          rw [Gr.cnt, if_pos b] at h2; omega
theorem evL_at {G : Gr} (h : G.ok) {s j k : Nat} : (evL G s)[j]? = some k ↔ k < G.n ∧ (G.ev k).sl = s ∧ (G.ev k).nu = j := evL_atN h s G.n (Nat.le_refl _) j k
/-- who deletes a node first -/
def stk (G : Gr) (k : Nat) : Option Nat := (List.range G.n).find? (fun j => decide ((G.ev j).ch = none ∧ (G.ev j).tg = k))
def stI : Option Nat → Int32
  | none => -1
  | some j => nI j
/-- whether a node is in the text -/
def vis (G : Gr) (x : Nat) : Bool := decide (stk G (x - 1) = none)
def visN (G : Gr) (T : Tr) : Nat := (T.od.filter (vis G)).length
/-- a graph and its tree, as mathematics -/
def GT (G : Gr) (T : Tr) : Prop := G.ok ∧ G.okt ∧ T.ok ∧ (∀ x, x ∈ T.od ↔ ∃ k, x = k + 1 ∧ k < G.n ∧ (G.ev k).ch ≠ none) ∧ (∀ k, k + 1 ∈ T.od → T.pr (k + 1) ≠ 0 → T.pr (k + 1) ∈ T.od ∧ G.bef (T.pr (k + 1) - 1) k = true) ∧ ∀ k, k < G.n → (G.ev k).ix ≤ 8192
/-- the heads, by rising keys -/
def HdS (G : Gr) (H : List Nat) : Prop := (∀ k, k ∈ H ↔ k < G.n ∧ ∀ j, j < G.n → G.bef k j = false) ∧ H.Pairwise (fun p q => G.key p < G.key q)
def xa (A : Nat → Nat) (X : GX) : Nat → Nat
  | 0 => A 1
  | k + 1 => X.ad k
/-- what is owned is there -/
def FO (S : MM) (F : Nat → Nat × Nat) : Prop := ∀ b, F b ≠ (0, 0) → b ∈ mL S
def GIf (S : MM) (F : Nat → Nat × Nat) (i : Nat) (A : Nat → Nat) (X : GX) (G : Gr) (T : Tr) (H : List Nat) (W : Nat → Nat) : Nat → Prop
  | 0 => isO S 6 (A 0) ∧ F (A 0) = (i, 1)
  | 1 => mR S 600 (A 0) = some (A 1) ∧ isO S 5 (A 1) ∧ F (A 1) = (i, 2)
  | 2 => mR S 601 (A 0) = some (A 2) ∧ F (A 2) = (i, 3) ∧ (capF G.n ≠ 0 → F (A 3) = (i, 4)) ∧ AL S (A 2) (A 3) (capF G.n) 5 ((List.range G.n).map X.ad)
  | 3 => mR S 602 (A 0) = some (A 4) ∧ isO S 21 (A 4) ∧ F (A 4) = (i, 5) ∧ mN S (A 4) = 256 ∧ (∀ s, s < G.m → eR S (A 4) (G.ag s) = some (X.aa s)) ∧ ∀ j, j < 256 → (∀ s, s < G.m → G.ag s ≠ j) → eR S (A 4) j = none
  | 4 => mI S 603 (A 0) = nI G.m
  | 5 => mR S 604 (A 0) = some (A 5) ∧ F (A 5) = (i, 6) ∧ (A 7 ≠ 0 → F (A 6) = (i, 7)) ∧ AL S (A 5) (A 6) (A 7) 5 (H.map X.ad) ∧ (A 7 = 0 ∨ A 7 = 10 ∨ A 7 = 15 ∨ A 7 = 22)
  | 6 => mI S 605 (A 0) = nI (visN G T)
  | 7 => mR S 606 (A 0) = some (A 8) ∧ F (A 8) = (i, 8) ∧ WR S (A 8) W
  | 8 => mR S 607 (A 0) = some (A 9) ∧ F (A 9) = (i, 9) ∧ isO S 17 (A 9) ∧ mN S (A 9) = 16
  | 9 => mR S 608 (A 0) = some (A 10) ∧ F (A 10) = (i, 10) ∧ isO S 17 (A 10) ∧ mN S (A 10) = 16
  | 10 => EvT S X G
  | 11 => ∀ k, k < G.n → F (X.ad k) = (i, 100 + k) ∧ F (X.pw k) = (i, 11) ∧ F (X.bf k) = (i, 12)
  | 12 => ∀ s, s < G.m → F (X.aa s) = (i, 20 + s) ∧ mR S 102 (X.aa s) = some (A (20 + 2 * s)) ∧ F (A (20 + 2 * s)) = (i, 40 + s) ∧ (capF (G.cn s) ≠ 0 → F (A (21 + 2 * s)) = (i, 60 + s)) ∧ AL S (A (20 + 2 * s)) (A (21 + 2 * s)) (capF (G.cn s)) 5 ((evL G s).map X.ad)
  | 13 => mI S 609 (A 0) = nI (c1 G W G.n)
  | 14 => ∀ k, k < G.n → (G.ev k).ch ≠ none → mI S 513 (X.ad k) = nI (stV G W G.n k)
  | 15 => ∀ k, k < G.n → (G.ev k).ch ≠ none → mI S 514 (X.ad k) = stI (stk G k)
  | 16 => ∀ x, x = 0 ∨ x ∈ T.od → mR S 508 (xa A X x) = (T.fl x).map (xa A X) ∧ mR S 509 (xa A X x) = (T.fr x).map (xa A X) ∧ (x ≠ 0 → mR S 510 (xa A X x) = (T.sb x).map (xa A X))
  | 17 => ChP S (A 1) (T.od.map (xa A X))
  | 18 => ∃ U V, T.od = U ++ V ∧ mR S 610 (A 0) = some ((U.map (xa A X)).getLastD (A 1)) ∧ mI S 611 (A 0) = nI (seenC S (U.map (xa A X)))
  | 19 => GT G T
  | 20 => HdS G H
  | 21 => G.Ver W ∧ ∀ s, G.m ≤ s → W s = 0
  | _ => True
def GI (S : MM) (F : Nat → Nat × Nat) (i : Nat) (A : Nat → Nat) (X : GX) (G : Gr) (T : Tr) (H : List Nat) (W : Nat → Nat) : Prop := ∀ j, GIf S F i A X G T H W j
section GIS
variable {S S' : MM} {F F' : Nat → Nat × Nat} {i : Nat} {A : Nat → Nat} {X : GX} {G : Gr} {T : Tr} {H : List Nat} {W : Nat → Nat} {P : Nat → Prop}
theorem GI.gt (h : GI S F i A X G T H W) : GT G T := h 19
theorem GI.ev (h : GI S F i A X G T H W) : EvT S X G := h 10
theorem GI.ok (h : GI S F i A X G T H W) : G.ok := h.gt.1
theorem GI.nd (h : GI S F i A X G T H W) {x : Nat} (hx : x ∈ T.od) : ∃ k, x = k + 1 ∧ k < G.n ∧ (G.ev k).ch ≠ none := (h.gt.2.2.2.1 x).1 hx
theorem GI.x5 (h : GI S F i A X G T H W) {x : Nat} (hx : x = 0 ∨ x ∈ T.od) : isO S 5 (xa A X x) := by
  rcases hx with z | z
  · subst z; exact (h 1).2.1
  · obtain ⟨k, rfl, h1, -⟩ := h.nd z
    exact (h.ev.2.1 k h1).1
theorem GI.xi (h : GI S F i A X G T H W) {x y : Nat} (hx : x = 0 ∨ x ∈ T.od) (hy : y = 0 ∨ y ∈ T.od) (e : xa A X x = xa A X y) : x = y := by
  have h2 : F (A 1) = (i, 2) := (h 1).2.2
  have h3 : ∀ k, k < G.n → F (X.ad k) = (i, 100 + k) := fun k hk => (h 11 k hk).1
  rcases hx with z | z <;> rcases hy with w | w
  · rw [z, w]
  · subst z
    obtain ⟨k, rfl, h1, -⟩ := h.nd w
    have := h3 k h1
    rw [show X.ad k = A 1 from e.symm, h2] at this
    injection this with q1 q2; omega
  · subst w
    obtain ⟨k, rfl, h1, -⟩ := h.nd z
    have := h3 k h1
    rw [show X.ad k = A 1 from e, h2] at this
    injection this with q1 q2; omega
  · obtain ⟨k, rfl, h1, -⟩ := h.nd z
    obtain ⟨l, rfl, h4, -⟩ := h.nd w
    have e1 := h3 k h1
    rw [show X.ad k = X.ad l from e, h3 l h4] at e1
    injection e1 with q1 q2
    rw [show l = k by omega]
theorem ChP.keep {rt : Nat} {O : List Nat} (h : ChP S rt O) (hk : Keep P S S') (h1 : ¬ P rt) (h2 : ∀ y ∈ O, ¬ P y) : ChP S' rt O := by
  obtain ⟨a, b, c, d⟩ := h
  have e1 : ∀ y, y = rt ∨ y ∈ O → ∀ i, mR S' i y = mR S i y := fun y hy => by
    rcases hy with z | z
    · subst z; exact (hk.2.1 y a.1 h1).2.1
    · exact (hk.2.1 y (b y z).1 (h2 y z)).2.1
  refine ⟨hk.isO a, fun y hy => hk.isO (b y hy), fun U V e => ?_, fun U y V e => ?_⟩
  · rw [e1 _ (last_in.elim (fun w => Or.inl w.1) (fun w => Or.inr (by rw [e]; exact List.mem_append_left _ w)))]; exact c U V e
  · rw [e1 y (Or.inr (by rw [e]; simp))]; exact d U y V e
theorem seenC_cg {L : List Nat} (h : ∀ y ∈ L, mI S' 513 y = mI S 513 y) : seenC S' L = seenC S L := by
  induction L with
  | nil => rfl
  | cons y L ih => rw [seenC, seenC, h y List.mem_cons_self, ih (fun z hz => h z (List.mem_cons_of_mem _ hz))]
theorem WR.keep {r : Nat} {w : Nat → Nat} (h : WR S r w) (hk : Keep P S S') (h1 : ¬ P r) : WR S' r w := by
  obtain ⟨a, b, c⟩ := h
  refine ⟨hk.isO a, by rw [(hk.1 r a.1).2.2]; exact b, fun s hs => ?_⟩
  rw [(hk.2.1 r a.1 h1).2.2.2.1]; exact c s hs
theorem FO.iso (hF : FO S F) {b i r : Nat} (h : F b = (i, r)) (hi : i ≠ 0) : b ∈ mL S := hF b (by rw [h]; intro q; injection q with q1 q2; exact hi q1)
theorem keep_f (hk : Keep P S S') (h : ∀ b, (F b).1 = i → ¬ P b) {b r : Nat} (hb : F b = (i, r)) : ¬ P b := h b (by rw [hb])
theorem isO_back (hk : Keep P S S') {k b : Nat} (hb : b ∈ mL S) (h : isO S' k b) : isO S k b := ⟨hb, (hk.1 b hb).2.1.symm.trans h.2⟩
theorem GI.keep (h : GI S F i A X G T H W) (hk : Keep P S S') (hP : ∀ b, (F b).1 = i → ¬ P b) (hF : FO S F) (hi : i ≠ 0) (hf : ∀ b, b ∈ mL S → F' b = F b) : GI S' F' i A X G T H W := by
  have nP : ∀ {b r : Nat}, F b = (i, r) → ¬ P b := fun hb => keep_f hk hP hb
  have fF : ∀ {b r : Nat}, F b = (i, r) → F' b = (i, r) := fun hb => (hf _ (hF.iso hb hi)).trans hb
  have kR : ∀ {b r : Nat}, F b = (i, r) → ∀ j, mR S' j b = mR S j b := fun hb => (hk.2.1 _ (hF.iso hb hi) (nP hb)).2.1
  have kI : ∀ {b r : Nat}, F b = (i, r) → ∀ j, mI S' j b = mI S j b := fun hb => (hk.2.1 _ (hF.iso hb hi) (nP hb)).1
  have g0 : F (A 0) = (i, 1) := (h 0).2
  have gx : ∀ x, x = 0 ∨ x ∈ T.od → ∃ r, F (xa A X x) = (i, r) := fun x hx => by
    rcases hx with z | z
    · subst z; exact ⟨_, (h 1).2.2⟩
    · obtain ⟨k, rfl, h1, -⟩ := h.nd z
      exact ⟨_, (h 11 k h1).1⟩
  intro j
  match j with
  | 0 => exact ⟨hk.isO (h 0).1, fF g0⟩
  | 1 => exact ⟨(kR g0 600).trans (h 1).1, hk.isO (h 1).2.1, fF (h 1).2.2⟩
  | 2 => exact ⟨(kR g0 601).trans (h 2).1, fF (h 2).2.1, fun c => fF ((h 2).2.2.1 c), (h 2).2.2.2.keepc hk (nP (h 2).2.1) (fun c => nP ((h 2).2.2.1 c))⟩
  | 3 =>
    obtain ⟨a1, a2, a3, a4, a5, a6⟩ := h 3
    have e1 := (hk.2.1 _ a2.1 (nP a3)).2.2.2.2.2
    exact ⟨(kR g0 602).trans a1, hk.isO a2, fF a3, (hk.1 _ a2.1).2.2.trans a4, fun s hs => by rw [e1]; exact a5 s hs, fun j hj q => by rw [e1]; exact a6 j hj q⟩
  | 4 => exact (kI g0 603).trans (h 4)
  | 5 => exact ⟨(kR g0 604).trans (h 5).1, fF (h 5).2.1, fun c => fF ((h 5).2.2.1 c), (h 5).2.2.2.1.keepc hk (nP (h 5).2.1) (fun c => nP ((h 5).2.2.1 c)), (h 5).2.2.2.2⟩
  | 6 => exact (kI g0 605).trans (h 6)
  | 7 => exact ⟨(kR g0 606).trans (h 7).1, fF (h 7).2.1, (h 7).2.2.keep hk (nP (h 7).2.1)⟩
  | 8 => exact ⟨(kR g0 607).trans (h 8).1, fF (h 8).2.1, hk.isO (h 8).2.2.1, (hk.1 _ (h 8).2.2.1.1).2.2.trans (h 8).2.2.2⟩
  | 9 => exact ⟨(kR g0 608).trans (h 9).1, fF (h 9).2.1, hk.isO (h 9).2.2.1, (hk.1 _ (h 9).2.2.1.1).2.2.trans (h 9).2.2.2⟩
  | 10 => exact h.ev.keep hk (fun k q => ⟨nP (h 11 k q).1, nP (h 11 k q).2.1, nP (h 11 k q).2.2⟩) (fun s q => nP (h 12 s q).1)
  | 11 => exact fun k q => ⟨fF (h 11 k q).1, fF (h 11 k q).2.1, fF (h 11 k q).2.2⟩
  | 12 =>
    intro s q
    obtain ⟨a1, a2, a3, a4, a5⟩ := h 12 s q
    exact ⟨fF a1, (kR a1 102).trans a2, fF a3, fun c => fF (a4 c), a5.keepc hk (nP a3) (fun c => nP (a4 c))⟩
  | 13 => exact (kI g0 609).trans (h 13)
  | 14 => exact fun k q c => (kI (h 11 k q).1 513).trans (h 14 k q c)
  | 15 => exact fun k q c => (kI (h 11 k q).1 514).trans (h 15 k q c)
  | 16 =>
    intro x hx
    obtain ⟨r, hr⟩ := gx x hx
    obtain ⟨a1, a2, a3⟩ := h 16 x hx
    exact ⟨(kR hr 508).trans a1, (kR hr 509).trans a2, fun q => (kR hr 510).trans (a3 q)⟩
  | 17 =>
    refine ChP.keep (h 17) hk (nP (h 1).2.2) (fun y hy => ?_)
    obtain ⟨x, x1, rfl⟩ := List.mem_map.1 hy
    obtain ⟨r, hr⟩ := gx x (Or.inr x1)
    exact nP hr
  | 18 =>
    obtain ⟨U, V, e, a1, a2⟩ := h 18
    refine ⟨U, V, e, (kR g0 610).trans a1, ?_⟩
    have e9 : seenC S' (U.map (xa A X)) = seenC S (U.map (xa A X)) := seenC_cg (fun y hy => by
      obtain ⟨x, x1, rfl⟩ := List.mem_map.1 hy
      obtain ⟨r, hr⟩ := gx x (Or.inr (by rw [e]; exact List.mem_append_left _ x1))
      exact kI hr 513)
    rw [kI g0 611, a2, e9]
  | 19 => exact h 19
  | 20 => exact h 20
  | 21 => exact h 21
  | n + 22 => exact trivial
end GIS
