/-! ===== The order of the nodes as mathematics: node 0 is the root, node k + 1 is event k ===== -/
abbrev Tr : Type := (Nat → Option Nat) × (Nat → Option Nat) × (Nat → Option Nat) × (Nat → Nat) × List Nat
def Tr.fl (T : Tr) : Nat → Option Nat := T.1
def Tr.fr (T : Tr) : Nat → Option Nat := T.2.1
def Tr.sb (T : Tr) : Nat → Option Nat := T.2.2.1
def Tr.pr (T : Tr) : Nat → Nat := T.2.2.2.1
def Tr.od (T : Tr) : List Nat := T.2.2.2.2
def updO (f : Nat → Option Nat) (a : Nat) (v : Option Nat) : Nat → Option Nat := fun k => if k = a then v else f k
def updN (f : Nat → Nat) (a v : Nat) : Nat → Nat := fun k => if k = a then v else f k
theorem updO_s {f : Nat → Option Nat} {a : Nat} {v : Option Nat} : updO f a v a = v := if_pos rfl
theorem updO_o {f : Nat → Option Nat} {a k : Nat} {v : Option Nat} (h : k ≠ a) : updO f a v k = f k := if_neg h
theorem updN_s {f : Nat → Nat} {a v : Nat} : updN f a v a = v := if_pos rfl
theorem updN_o {f : Nat → Nat} {a k v : Nat} (h : k ≠ a) : updN f a v k = f k := if_neg h
def Tr.row (T : Tr) (lf : Nat) : Option Nat → Option Nat
  | none => T.fr lf
  | some r => T.fl r
def Tr.put (T : Tr) (lt : Nat → Bool) (lf : Nat) (rg : Option Nat) (e : Nat) (O' : List Nat) : Tr :=
  match lstW lt T.sb T.od.length none (T.row lf rg) with
  | some x => (T.fl, T.fr, updO (updO T.sb e (T.sb x)) x (some e), updN T.pr e (rg.getD lf), O')
  | none => match rg with
    | none => (T.fl, updO T.fr lf (some e), updO T.sb e (T.fr lf), updN T.pr e lf, O')
    | some r => (updO T.fl r (some e), T.fr, updO T.sb e (T.fl r), updN T.pr e r, O')
/-- a row of siblings lies among the nodes, and all of it has one parent -/
def Rw (sb : Nat → Option Nat) (pr : Nat → Nat) (O : List Nat) (q : Option Nat) (x : Nat) : Prop := ∀ n c, c ∈ sibW sb n q → c ∈ O ∧ pr c = x
def Tr.ok (T : Tr) : Prop := Rp T.fl T.fr T.sb T.od.length (T.fr 0) T.od ∧ T.od.Nodup ∧ 0 ∉ T.od ∧ (∀ k, k ∉ T.od → T.fl k = none) ∧ (∀ k, k ∉ T.od → k ≠ 0 → T.fr k = none) ∧ (∀ x, Rw T.sb T.pr T.od (T.fr x) x) ∧ ∀ x, Rw T.sb T.pr T.od (T.fl x) x
theorem Rp.fuel {fl fr sb : Nat → Option Nat} {n : Nat} {p : Option Nat} {O : List Nat} (h : Rp fl fr sb n p O) : Rp fl fr sb O.length p O := by
  induction n generalizing p O with
  | zero =>
    cases p with
    | none => rw [Rp.no] at h ⊢; exact h
    | some x => exact h.elim
  | succ n ih =>
    cases p with
    | none => rw [Rp.no] at h ⊢; exact h
    | some x =>
      obtain ⟨A, B, C, a, b, c, rfl⟩ := h
      have e : (A ++ x :: (B ++ C)).length = (A.length + B.length + C.length) + 1 := by simp; omega
      rw [e]
      exact ⟨A, B, C, (ih a).mono (by omega), (ih b).mono (by omega), (ih c).mono (by omega), rfl⟩
theorem sib_mono {sb : Nat → Option Nat} {n m : Nat} {q : Option Nat} {c : Nat} (h : c ∈ sibW sb n q) (hm : n ≤ m) : c ∈ sibW sb m q := by
  induction n generalizing m q with
  | zero => cases q <;> cases h
  | succ n ih =>
    cases q with
    | none => cases h
    | some y =>
      obtain ⟨m, rfl⟩ : ∃ t, m = t + 1 := ⟨m - 1, by omega⟩
      rcases List.mem_cons.1 h with z | z
      · exact List.mem_cons.2 (Or.inl z)
      · exact List.mem_cons.2 (Or.inr (ih z (by omega)))
theorem lstW_sib {lt : Nat → Bool} {sb : Nat → Option Nat} {n x : Nat} {p : Option Nat} (hx : lstW lt sb n none p = some x) : x ∈ sibW sb n p := by
  induction n generalizing p with
  | zero => cases p <;> simp [lstW] at hx
  | succ n ih =>
    cases p with
    | none => simp [lstW] at hx
    | some y =>
      unfold lstW at hx
      by_cases q : lt y = true
      · rw [if_pos q, lstW_or] at hx
        cases h9 : lstW lt sb n none (sb y) with
        | none => rw [h9] at hx; simp at hx; exact List.mem_cons.2 (Or.inl hx.symm)
        | some w => rw [h9] at hx; simp at hx; subst hx; exact List.mem_cons.2 (Or.inr (ih h9))
      · rw [if_neg q] at hx; cases hx
theorem sib_same {sb : Nat → Option Nat} {e : Nat} {v : Option Nat} : ∀ (n : Nat) (q : Option Nat), (∀ m, e ∉ sibW sb m q) → sibW (updO sb e v) n q = sibW sb n q
  | 0, q, _ => by cases q <;> rfl
  | n + 1, none, _ => rfl
  | n + 1, some y, h => by
    have hy : y ≠ e := fun z => h 1 (by rw [z]; exact List.mem_cons_self)
    show y :: sibW (updO sb e v) n (updO sb e v y) = y :: sibW sb n (sb y)
    rw [updO_o hy, sib_same n (sb y) (fun m hm => h (m + 1) (List.mem_cons_of_mem _ hm))]
theorem sib_up {sb : Nat → Option Nat} {e x c : Nat} (hx : x ≠ e) : ∀ (k n : Nat) (q : Option Nat), n ≤ k → (∀ m, e ∉ sibW sb m q) → c ∈ sibW (updO (updO sb e (sb x)) x (some e)) n q → c ∈ sibW sb n q ∨ (c = e ∧ x ∈ sibW sb n q)
  | k, 0, q, _, _, hc => by cases q <;> cases hc
  | k, n + 1, none, _, _, hc => by cases hc
  | 0, n + 1, some y, hk, _, _ => absurd hk (by omega)
  | k + 1, n + 1, some y, hk, h, hc => by
    have hy : y ≠ e := fun z => h 1 (by rw [z]; exact List.mem_cons_self)
    have ht : ∀ m, e ∉ sibW sb m (sb y) := fun m hm => h (m + 1) (List.mem_cons_of_mem _ hm)
    rcases List.mem_cons.1 hc with z | z
    · exact Or.inl (List.mem_cons.2 (Or.inl z))
    · by_cases w : y = x
      · subst w
        rw [updO_s] at z
        cases n with
        | zero => cases z
        | succ n =>
          rcases List.mem_cons.1 z with z | z
          · exact Or.inr ⟨z, List.mem_cons_self⟩
          · rw [updO_o (fun q => hx q.symm), updO_s] at z
            rcases sib_up hx k n (sb y) (by omega) ht z with z | z
            · exact Or.inl (List.mem_cons_of_mem _ (sib_mono z (by omega)))
            · exact Or.inr ⟨z.1, List.mem_cons_self⟩
      · rw [updO_o w, updO_o hy] at z
        rcases sib_up hx k n (sb y) (by omega) ht z with z | z
        · exact Or.inl (List.mem_cons_of_mem _ z)
        · exact Or.inr ⟨z.1, List.mem_cons_of_mem _ z.2⟩
theorem Rw.no {sb : Nat → Option Nat} {pr : Nat → Nat} {O : List Nat} {q : Option Nat} {x e : Nat} (h : Rw sb pr O q x) (he : e ∉ O) : ∀ m, e ∉ sibW sb m q := fun m hm => he (h m e hm).1
/-- a row in which the new node does not come in -/
theorem Rw.out {sb : Nat → Option Nat} {pr : Nat → Nat} {O O' : List Nat} {q v : Option Nat} {x e y : Nat} (h : Rw sb pr O q x) (he : e ∉ O) (hs : ∀ c, c ∈ O → c ∈ O') : Rw (updO sb e v) (updN pr e y) O' q x := fun n c hc => by
  rw [sib_same n q (h.no he)] at hc
  obtain ⟨a, b⟩ := h n c hc
  exact ⟨hs c a, (updN_o (fun z : c = e => he (z ▸ a))).trans b⟩
/-- a row whose first the new node becomes -/
theorem Rw.fst {sb : Nat → Option Nat} {pr : Nat → Nat} {O O' : List Nat} {q : Option Nat} {x e : Nat} (h : Rw sb pr O q x) (he : e ∉ O) (hs : ∀ c, c ∈ O → c ∈ O') (he' : e ∈ O') : Rw (updO sb e q) (updN pr e x) O' (some e) x := fun n c hc => by
  cases n with
  | zero => cases hc
  | succ n =>
    rcases List.mem_cons.1 hc with z | z
    · rw [z]; exact ⟨he', updN_s⟩
    · rw [updO_s] at z
      exact h.out he hs n c z
/-- rows, when the new node goes behind a node -/
theorem Rw.mid {sb : Nat → Option Nat} {pr : Nat → Nat} {O O' : List Nat} {q : Option Nat} {x y e w : Nat} (h : Rw sb pr O q x) (he : e ∉ O) (hy : y ∈ O) (hw : pr y = w) (hs : ∀ c, c ∈ O → c ∈ O') (he' : e ∈ O') : Rw (updO (updO sb e (sb y)) y (some e)) (updN pr e w) O' q x := fun n c hc => by
  rcases sib_up (fun z : y = e => he (z ▸ hy)) n n q (Nat.le_refl _) (h.no he) hc with z | z
  · obtain ⟨a, b⟩ := h n c z
    exact ⟨hs c a, (updN_o (fun z : c = e => he (z ▸ a))).trans b⟩
  · rw [z.1]
    exact ⟨he', by rw [updN_s, ← hw]; exact (h n y z.2).2⟩
