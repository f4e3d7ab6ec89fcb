/-! ===== Graph.<init> ===== -/
def e0 : Gr := (0, (fun _ => (0, 0, (fun _ => 0), [], none, 0, 0)), 0, fun _ => 0)
def T0 : Tr := ((fun _ => none), (fun _ => none), (fun _ => none), (fun _ => 0), [])
/-- what a new graph has, one after the other -/
def ixG (j : Nat) : Nat := match j with
  | 1 => 1
  | 2 => 2
  | 3 => 4
  | 5 => 5
  | 7 => 8
  | 8 => 9
  | 9 => 10
  | _ => 0
def PGf (S : MM) (F : Nat → Nat × Nat) (i : Nat) (A : Nat → Nat) : Nat → Prop
  | 0 => isO S 6 (A 0) ∧ F (A 0) = (i, 1)
  | 1 => mR S 600 (A 0) = some (A 1) ∧ isO S 5 (A 1) ∧ F (A 1) = (i, 2) ∧ mR S 512 (A 1) = none ∧ mR S 508 (A 1) = none ∧ mR S 509 (A 1) = none
  | 2 => mR S 601 (A 0) = some (A 2) ∧ F (A 2) = (i, 3) ∧ AL S (A 2) (mZ S) 0 5 []
  | 3 => mR S 602 (A 0) = some (A 4) ∧ isO S 21 (A 4) ∧ F (A 4) = (i, 5) ∧ mN S (A 4) = 256 ∧ ∀ j, eR S (A 4) j = none
  | 4 => mI S 603 (A 0) = 0
  | 5 => mR S 604 (A 0) = some (A 5) ∧ F (A 5) = (i, 6) ∧ AL S (A 5) (mZ S) 0 5 []
  | 6 => mI S 605 (A 0) = 0
  | 7 => mR S 606 (A 0) = some (A 8) ∧ F (A 8) = (i, 8) ∧ isO S 17 (A 8) ∧ mN S (A 8) = 16 ∧ ∀ j, eI S (A 8) j = 0
  | 8 => mR S 607 (A 0) = some (A 9) ∧ F (A 9) = (i, 9) ∧ isO S 17 (A 9) ∧ mN S (A 9) = 16
  | 9 => mR S 608 (A 0) = some (A 10) ∧ F (A 10) = (i, 10) ∧ isO S 17 (A 10) ∧ mN S (A 10) = 16
  | 10 => mI S 609 (A 0) = 0
  | _ => True
def PG (S : MM) (F : Nat → Nat × Nat) (i : Nat) (A : Nat → Nat) (n : Nat) : Prop := ∀ j, j < n → PGf S F i A j
section PGS
variable {S S2 S' : MM} {F F' : Nat → Nat × Nat} {i : Nat} {A A' : Nat → Nat} {n : Nat}
theorem PG.step (h : PG S F i A n) (hF : FO S F) (hi : i ≠ 0) (h1 : 1 ≤ n) (hk : Keep (fun b => b = A 0) S S') {code : Nat} (hc : 599 + n ≤ code) (hR : ∀ c, c ≠ code → mR S' c (A 0) = mR S c (A 0)) (hI : ∀ c, c ≠ code → mI S' c (A 0) = mI S c (A 0)) (hf : ∀ b, b ∈ mL S → F' b = F b) (hA : ∀ j, j < n → A' (ixG j) = A (ixG j)) : PG S' F' i A' n := by
  have g0 : F (A 0) = (i, 1) := (h 0 h1).2
  have a0 : A' 0 = A 0 := hA 0 h1
  have inL : ∀ {b r : Nat}, F b = (i, r) → b ∈ mL S := fun hb => hF.iso hb hi
  have fF : ∀ {b r : Nat}, F b = (i, r) → F' b = (i, r) := fun hb => (hf _ (inL hb)).trans hb
  have nP : ∀ {b r : Nat}, F b = (i, r) → r ≠ 1 → ¬ b = A 0 := fun hb r1 => f_ne hb g0 r1
  have kR : ∀ {b r : Nat}, F b = (i, r) → r ≠ 1 → ∀ j, mR S' j b = mR S j b := fun hb r1 => (hk.2.1 _ (inL hb) (nP hb r1)).2.1
  have kz : mZ S' = mZ S := hk.2.2.1
  intro j hj
  have hq := h j hj
  have ha := hA j hj
  match j with
  | 0 => exact ⟨by rw [a0]; exact hk.isO hq.1, by rw [a0]; exact fF hq.2⟩
  | 1 =>
    have ha : A' 1 = A 1 := ha
    exact ⟨by rw [a0, ha]; exact (hR 600 (by omega)).trans hq.1, by rw [ha]; exact hk.isO hq.2.1, by rw [ha]; exact fF hq.2.2.1, by rw [ha]; exact (kR hq.2.2.1 (by decide) 512).trans hq.2.2.2.1, by rw [ha]; exact (kR hq.2.2.1 (by decide) 508).trans hq.2.2.2.2.1, by rw [ha]; exact (kR hq.2.2.1 (by decide) 509).trans hq.2.2.2.2.2⟩
  | 2 =>
    have ha : A' 2 = A 2 := ha
    exact ⟨by rw [a0, ha]; exact (hR 601 (by omega)).trans hq.1, by rw [ha]; exact fF hq.2.1, by rw [ha, kz]; exact hq.2.2.keepc hk (nP hq.2.1 (by decide)) (fun z => absurd rfl z)⟩
  | 3 =>
    have ha : A' 4 = A 4 := ha
    obtain ⟨q1, q2, q3, q4, q5⟩ := hq
    exact ⟨by rw [a0, ha]; exact (hR 602 (by omega)).trans q1, by rw [ha]; exact hk.isO q2, by rw [ha]; exact fF q3, by rw [ha]; exact (hk.1 _ q2.1).2.2.trans q4, fun l => by rw [ha, (hk.2.1 _ q2.1 (nP q3 (by decide))).2.2.2.2.2]; exact q5 l⟩
  | 4 => exact (by rw [PGf, a0]; exact (hI 603 (by omega)).trans hq)
  | 5 =>
    have ha : A' 5 = A 5 := ha
    exact ⟨by rw [a0, ha]; exact (hR 604 (by omega)).trans hq.1, by rw [ha]; exact fF hq.2.1, by rw [ha, kz]; exact hq.2.2.keepc hk (nP hq.2.1 (by decide)) (fun z => absurd rfl z)⟩
  | 6 => exact (by rw [PGf, a0]; exact (hI 605 (by omega)).trans hq)
  | 7 =>
    have ha : A' 8 = A 8 := ha
    obtain ⟨q1, q2, q3, q4, q5⟩ := hq
    exact ⟨by rw [a0, ha]; exact (hR 606 (by omega)).trans q1, by rw [ha]; exact fF q2, by rw [ha]; exact hk.isO q3, by rw [ha]; exact (hk.1 _ q3.1).2.2.trans q4, fun l => by rw [ha, (hk.2.1 _ q3.1 (nP q2 (by decide))).2.2.2.1]; exact q5 l⟩
  | 8 =>
    have ha : A' 9 = A 9 := ha
    obtain ⟨q1, q2, q3, q4⟩ := hq
    exact ⟨by rw [a0, ha]; exact (hR 607 (by omega)).trans q1, by rw [ha]; exact fF q2, by rw [ha]; exact hk.isO q3, by rw [ha]; exact (hk.1 _ q3.1).2.2.trans q4⟩
  | 9 =>
    have ha : A' 10 = A 10 := ha
    obtain ⟨q1, q2, q3, q4⟩ := hq
    exact ⟨by rw [a0, ha]; exact (hR 608 (by omega)).trans q1, by rw [ha]; exact fF q2, by rw [ha]; exact hk.isO q3, by rw [ha]; exact (hk.1 _ q3.1).2.2.trans q4⟩
  | 10 => exact (by rw [PGf, a0]; exact (hI 609 (by omega)).trans hq)
  | m + 11 => exact trivial
theorem PG.int (h : PG S F i A n) (hF : FO S F) (hi : i ≠ 0) (h1 : 1 ≤ n) {v : Int32} : PG (sI S (599 + n) (A 0) v) F i A n ∧ Keep (fun b => b = A 0) S (sI S (599 + n) (A 0) v) := by
  have hk : Keep (fun b => b = A 0) S (sI S (599 + n) (A 0) v) := Keep.rf.sI rfl
  exact ⟨h.step hF hi h1 hk (Nat.le_refl _) (fun _ _ => rfl) (fun c q => if_neg (fun z => q z.1)) (fun _ _ => rfl) (fun _ _ => rfl), hk⟩
theorem PG.put (h : PG S F i A n) (hF : FO S F) (hi : i ≠ 0) (h1 : 1 ≤ n) {q r y : Nat} (hq : q ∉ mL S) (hk : Keep (fun b => b ∉ mL S) S S2) (hm : q ∈ mL S2) (hy : ∀ j, j < n → ixG j ≠ y) :
    PG (sR S2 (599 + n) (A 0) (some q)) (fun b => if b = q then (i, r) else F b) i (updN A y q) n ∧ FO (sR S2 (599 + n) (A 0) (some q)) (fun b => if b = q then (i, r) else F b) ∧ (∀ b, b ∈ mL S → (fun b => if b = q then (i, r) else F b) b = F b) ∧ Keep (fun b => b = A 0) S (sR S2 (599 + n) (A 0) (some q)) := by
  have g1 := (h 0 h1).1
  have gq : A 0 ≠ q := fun z => hq (z ▸ g1.1)
  have k2 : Keep (fun b => b = A 0) S S2 := hk.mono (fun b hb z => absurd hb z)
  have hK : Keep (fun b => b = A 0) S (sR S2 (599 + n) (A 0) (some q)) := k2.sR rfl
  have hf : ∀ b, b ∈ mL S → (fun b => if b = q then (i, r) else F b) b = F b := fun b hb => if_neg (fun (e : b = q) => hq (e ▸ hb))
  have kg := hk.2.1 _ g1.1 (fun z => z g1.1)
  refine ⟨h.step hF hi h1 hK (Nat.le_refl _) (fun c z => ?_) (fun c z => kg.1 c) hf (fun j hj => updN_o (hy j hj)), fun b hb => ?_, hf, hK⟩
  · rw [mR_sR, if_neg (fun w => z w.1)]; exact kg.2.1 c
  · show b ∈ mL S2
    by_cases z : b = q
    · rw [z]; exact hm
    · have hb : (if b = q then (i, r) else F b) ≠ (0, 0) := hb
      rw [if_neg z] at hb
      exact (hk.1 b (hF b hb)).1
theorem PG.nx (h : PG S F i A n) (hn : PGf S F i A n) : PG S F i A (n + 1) := fun j hj => by
  rcases Nat.lt_or_ge j n with z | z
  · exact h j z
  · rw [show j = n by omega]; exact hn
/-- a new list of events -/
theorem AL.new {q : Nat} (hq : q ∉ mL S) : AL (sR (sI (nO S q 0) 0 q 0) 1 q (some (mZ (nO S q 0)))) q (mZ S) 0 5 [] ∧ Keep (fun b => b = q) S (sR (sI (nO S q 0) 0 q 0) 1 q (some (mZ (nO S q 0)))) :=
  ⟨⟨isO_sR (isO_sI isO_nO_self), by rw [mR_sR, if_pos ⟨rfl, rfl⟩]; rfl, by rw [mI_sR, mI_sI, if_neg (fun z => absurd z.1 (by decide)), mI_nO, if_pos rfl]; rfl, Nat.le_refl _, Nat.zero_le _, fun x hx => absurd hx List.not_mem_nil, Or.inr rfl, Or.inl ⟨rfl, rfl⟩⟩, Keep.sR (P := fun b => b = q) (Keep.sI (P := fun b => b = q) (Keep.rf.nO hq) rfl) rfl⟩
end PGS
def I_gi (g i : Nat) (F : Nat → Nat × Nat) (n c z : Nat) (S : MM) (t : Nat) : KT := fun lo st S1 cs sl => t = 20 - n ∧ lo = [(0, .inr (.inr (some g)))] ∧ st = [] ∧ (∃ F' A, A 0 = g ∧ PG S1 F' i A n ∧ FO S1 F' ∧ (∀ b, b ∈ mL S → b ≠ g → F' b = F b) ∧ Keep (fun b => b = g) S S1) ∧ cs = c ∧ sl = z
def giP (S S' : MM) (g i : Nat) (F : Nat → Nat × Nat) : Prop := ∃ F' A X, A 0 = g ∧ GI S' F' i A X e0 T0 [] (fun _ => 0) ∧ FO S' F' ∧ (∀ b, b ∈ mL S → b ≠ g → F' b = F b) ∧ Keep (fun b => b = g) S S'
theorem e0_ok : e0.ok := ⟨Nat.zero_le _, Nat.zero_le _, fun s hs => absurd hs (Nat.not_lt_zero _), fun s t hs => absurd hs (Nat.not_lt_zero _), trivial, fun k hk => absurd hk (Nat.not_lt_zero _), fun k hk => absurd hk (Nat.not_lt_zero _), fun k hk => absurd hk (Nat.not_lt_zero _), fun k s hk => absurd hk (Nat.not_lt_zero _), fun k j hk => absurd hk (Nat.not_lt_zero _), fun k hk => absurd hk (Nat.not_lt_zero _), fun k hk => absurd hk (Nat.not_lt_zero _), fun k hk => absurd hk (Nat.not_lt_zero _), fun k hk => absurd hk (Nat.not_lt_zero _)⟩
theorem T0_ok : T0.ok := by
  refine ⟨rfl, List.nodup_nil, List.not_mem_nil, fun _ _ => rfl, fun _ _ _ => rfl, fun x n c hc => ?_, fun x n c hc => ?_⟩
  · cases n <;> cases hc
  · cases n <;> cases hc
theorem e0_gt : GT e0 T0 := ⟨e0_ok, fun k hk => absurd hk (Nat.not_lt_zero _), T0_ok, fun x => ⟨fun h => absurd h List.not_mem_nil, fun ⟨k, _, hk, _⟩ => absurd hk (Nat.not_lt_zero _)⟩, fun k hk => absurd hk List.not_mem_nil, fun k hk => absurd hk (Nat.not_lt_zero _)⟩
theorem PG.gi {S : MM} {F : Nat → Nat × Nat} {i : Nat} {A : Nat → Nat} (h : PG S F i A 11) (h7 : A 7 = 0) (h3 : A 3 = mZ S) (h6 : A 6 = mZ S) (h610 : mR S 610 (A 0) = some (A 1)) (h611 : mI S 611 (A 0) = 0) : GI S F i A ((fun _ => 0), (fun _ => 0), (fun _ => 0), fun _ => 0) e0 T0 [] (fun _ => 0) := by
  intro j
  match j with
  | 0 => exact h 0 (by decide)
  | 1 => exact ⟨(h 1 (by decide)).1, (h 1 (by decide)).2.1, (h 1 (by decide)).2.2.1⟩
  | 2 => exact ⟨(h 2 (by decide)).1, (h 2 (by decide)).2.1, fun z => absurd rfl z, by rw [h3]; exact (h 2 (by decide)).2.2⟩
  | 3 => exact ⟨(h 3 (by decide)).1, (h 3 (by decide)).2.1, (h 3 (by decide)).2.2.1, (h 3 (by decide)).2.2.2.1, fun s hs => absurd hs (Nat.not_lt_zero _), fun l _ _ => (h 3 (by decide)).2.2.2.2 l⟩
  | 4 => exact h 4 (by decide)
  | 5 => exact ⟨(h 5 (by decide)).1, (h 5 (by decide)).2.1, fun z => absurd h7 z, by rw [h6, h7]; exact (h 5 (by decide)).2.2, Or.inl h7⟩
  | 6 => exact h 6 (by decide)
  | 7 => exact ⟨(h 7 (by decide)).1, (h 7 (by decide)).2.1, (h 7 (by decide)).2.2.1, (h 7 (by decide)).2.2.2.1, fun s _ => ⟨(h 7 (by decide)).2.2.2.2 s, Nat.zero_le _⟩⟩
  | 8 => exact h 8 (by decide)
  | 9 => exact h 9 (by decide)
  | 10 => exact ⟨e0_ok, fun k hk => absurd hk (Nat.not_lt_zero _), fun s hs => absurd hs (Nat.not_lt_zero _), fun a b ha => absurd ha (Nat.not_lt_zero _)⟩
  | 11 => exact fun k hk => absurd hk (Nat.not_lt_zero _)
  | 12 => exact fun s hs => absurd hs (Nat.not_lt_zero _)
  | 13 => exact h 10 (by decide)
  | 14 => exact fun k hk => absurd hk (Nat.not_lt_zero _)
  | 15 => exact fun k hk => absurd hk (Nat.not_lt_zero _)
  | 16 =>
    intro x hx
    have hx : x = 0 := hx.resolve_right List.not_mem_nil
    subst hx
    exact ⟨(h 1 (by decide)).2.2.2.2.1, (h 1 (by decide)).2.2.2.2.2, fun z => absurd rfl z⟩
  | 17 =>
    refine ⟨(h 1 (by decide)).2.1, fun y hy => absurd hy List.not_mem_nil, fun U V e => ?_, fun U y V e => ?_⟩
    · obtain ⟨rfl, rfl⟩ := List.append_eq_nil_iff.1 e.symm
      exact (h 1 (by decide)).2.2.2.1
    · have := congrArg List.length e
      simp [T0, Tr.od] at this
  | 18 => exact ⟨[], [], rfl, h610, h611⟩
  | 19 => exact e0_gt
  | 20 => exact ⟨fun k => ⟨fun h => absurd h List.not_mem_nil, fun h => absurd h.1 (Nat.not_lt_zero _)⟩, List.Pairwise.nil⟩
  | 21 => exact ⟨⟨fun s => Nat.zero_le _, fun k hk => absurd hk (Nat.not_lt_zero _)⟩, fun _ _ => rfl⟩
  | n + 22 => exact trivial
