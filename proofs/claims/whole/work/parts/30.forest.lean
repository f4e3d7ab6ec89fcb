/-- what hangs at a pointer, in order: the first left child, the first right child, the next sibling of each node are told by fl, fr, sb; n is fuel -/
def Rp (fl fr sb : Nat → Option Nat) : Nat → Option Nat → List Nat → Prop
  | _, none, O => O = []
  | 0, some _, _ => False
  | n + 1, some x, O => ∃ A B C, Rp fl fr sb n (fl x) A ∧ Rp fl fr sb n (fr x) B ∧ Rp fl fr sb n (sb x) C ∧ O = A ++ x :: (B ++ C)
theorem Rp.no {fl fr sb : Nat → Option Nat} {n : Nat} {O : List Nat} : Rp fl fr sb n none O ↔ O = [] := by cases n <;> exact Iff.rfl
theorem Rp.mono {fl fr sb : Nat → Option Nat} {n m : Nat} {p : Option Nat} {O : List Nat} (h : Rp fl fr sb n p O) (hm : n ≤ m) : Rp fl fr sb m p O := by
  induction n generalizing m p O with
  | zero =>
    cases p with
    | none => rw [Rp.no] at h ⊢; exact h
    | some x => exact h.elim
  | succ n ih =>
    cases p with
    | none => rw [Rp.no] at h ⊢; exact h
    | some x =>
      obtain ⟨m, rfl⟩ : ∃ k, m = k + 1 := ⟨m - 1, by omega⟩
      obtain ⟨A, B, C, a, b, c, e⟩ := h
      exact ⟨A, B, C, ih a (by omega), ih b (by omega), ih c (by omega), e⟩
theorem Rp.congr {fl fr sb fl' fr' sb' : Nat → Option Nat} {n : Nat} {p : Option Nat} {O : List Nat} (h : Rp fl fr sb n p O) (h1 : ∀ x ∈ O, fl' x = fl x ∧ fr' x = fr x ∧ sb' x = sb x) : Rp fl' fr' sb' n p O := by
  induction n generalizing p O with
  | zero =>
    cases p with
    | none => rw [Rp.no] at h ⊢; exact h
    | some x => exact h.elim
  | succ n ih =>
    cases p with
    | none => rw [Rp.no] at h ⊢; exact h
    | some x =>
      obtain ⟨A, B, C, a, b, c, rfl⟩ := h
      have hx := h1 x (by simp)
      refine ⟨A, B, C, ?_, ?_, ?_, rfl⟩
      · rw [hx.1]; exact ih a (fun y hy => h1 y (by simp [hy]))
      · rw [hx.2.1]; exact ih b (fun y hy => h1 y (by simp [hy]))
      · rw [hx.2.2]; exact ih c (fun y hy => h1 y (by simp [hy]))
theorem Rp.uniq {fl fr sb : Nat → Option Nat} {n m : Nat} {p : Option Nat} {O O' : List Nat} (h : Rp fl fr sb n p O) (h' : Rp fl fr sb m p O') : O = O' := by
  induction n generalizing m p O O' with
  | zero =>
    cases p with
    | none => rw [Rp.no] at h h'; rw [h, h']
    | some x => exact h.elim
  | succ n ih =>
    cases p with
    | none => rw [Rp.no] at h h'; rw [h, h']
    | some x =>
      cases m with
      | zero => exact h'.elim
      | succ m =>
        obtain ⟨A, B, C, a, b, c, rfl⟩ := h
        obtain ⟨A', B', C', a', b', c', rfl⟩ := h'
        rw [ih a a', ih b b', ih c c']
/-- the last sibling that is less -/
def lstW (lt : Nat → Bool) (sb : Nat → Option Nat) : Nat → Option Nat → Option Nat → Option Nat
  | n + 1, a, some y => if lt y then lstW lt sb n (some y) (sb y) else a
  | _, a, _ => a
theorem lstW_or (lt : Nat → Bool) (sb : Nat → Option Nat) (n : Nat) (a p : Option Nat) : lstW lt sb n a p = (lstW lt sb n none p).or a := by
  induction n generalizing a p with
  | zero => cases p <;> simp [lstW]
  | succ n ih =>
    cases p with
    | none => simp [lstW]
    | some y =>
      unfold lstW
      split
      · rw [ih (some y)]; cases lstW lt sb n none (sb y) <;> simp
      · simp
/-- a node becomes the first of a row of siblings -/
theorem Rp.put0 {fl fr sb fl' fr' sb' : Nat → Option Nat} {n e : Nat} {p : Option Nat} {O : List Nat} (h : Rp fl fr sb n p O) (h1 : fl' e = none) (h2 : fr' e = none) (h3 : sb' e = p) (h4 : ∀ x ∈ O, fl' x = fl x ∧ fr' x = fr x ∧ sb' x = sb x) : Rp fl' fr' sb' (n + 1) (some e) (e :: O) :=
  ⟨[], [], O, by rw [h1, Rp.no], by rw [h2, Rp.no], by rw [h3]; exact h.congr h4, by simp⟩
/-- a node goes behind a lesser sibling: what stands where -/
theorem Rp.put1 {lt : Nat → Bool} {fl fr sb sb' : Nat → Option Nat} {n e x : Nat} {p : Option Nat} {O : List Nat} (h : Rp fl fr sb n p O) (hn : O.Nodup) (he : e ∉ O) (h1 : fl e = none) (h2 : fr e = none) (hx : lstW lt sb n none p = some x) (h3 : sb' x = some e) (h4 : sb' e = sb x) (h5 : ∀ y, y ≠ x → y ≠ e → sb' y = sb y) :
    ∃ A B C z m, x ∈ O ∧ Rp fl fr sb m (fr x) B ∧ Rp fl fr sb m (sb x) C ∧ z = B.getLastD x ∧ O = A ++ z :: C ∧ Rp fl fr sb' (n + 1) p (A ++ z :: e :: C) := by
  induction n generalizing p O with
  | zero => cases p <;> simp [lstW] at hx
  | succ n ih =>
    cases p with
    | none => simp [lstW] at hx
    | some y =>
      obtain ⟨A, B, C, a, b, c, rfl⟩ := h
      simp only [List.nodup_append, List.nodup_cons, List.mem_append, List.mem_cons] at hn
      simp only [List.mem_append, List.mem_cons, not_or] at he
      have cc : ∀ {m : Nat} {q : Option Nat} {L : List Nat}, Rp fl fr sb m q L → x ∉ L → e ∉ L → Rp fl fr sb' m q L := fun g g1 g2 => g.congr (fun z hz => ⟨rfl, rfl, h5 z (fun w => g1 (w ▸ hz)) (fun w => g2 (w ▸ hz))⟩)
      unfold lstW at hx
      by_cases q : lt y = true
      · rw [if_pos q, lstW_or] at hx
        cases h9 : lstW lt sb n none (sb y) with
        | none =>
          rw [h9] at hx
          simp at hx
          subst hx
          have r1 : Rp fl fr sb' (n + 1) (fl y) A := (cc a (fun w => hn.2.2 y w y (Or.inl rfl) rfl) he.1).mono (by omega)
          have r2 : Rp fl fr sb' (n + 1) (fr y) B := (cc b (fun w => hn.2.1.1 (Or.inl w)) he.2.2.1).mono (by omega)
          have r3 : Rp fl fr sb' (n + 1) (sb' y) (e :: C) := by
            rw [h3]
            exact Rp.put0 c h1 h2 h4 (fun z hz => ⟨rfl, rfl, h5 z (fun w => hn.2.1.1 (Or.inr (w ▸ hz))) (fun w => he.2.2.2 (w ▸ hz))⟩)
          cases B with
          | nil => exact ⟨A, [], C, y, n, by simp, b, c, rfl, by simp, ⟨A, [], e :: C, r1, r2, r3, by simp⟩⟩
          | cons w t =>
            have hd := List.dropLast_concat_getLast (l := w :: t) (by simp)
            refine ⟨A ++ y :: (w :: t).dropLast, w :: t, C, (w :: t).getLast (by simp), n, by simp, b, c, ?_, ?_, ⟨A, w :: t, e :: C, r1, r2, r3, ?_⟩⟩
            · rw [List.getLastD_eq_getLast?, List.getLast?_eq_some_getLast (by simp)]; rfl
            · conv => lhs; rw [← hd]
              simp
            · conv => rhs; rw [← hd]
              simp
        | some w =>
          rw [h9] at hx
          simp at hx
          subst hx
          obtain ⟨A1, B1, C1, z, m, g1, g2, g3, g4, g5, g6⟩ := ih c hn.2.1.2.2.1 he.2.2.2 h9
          have hyw : y ≠ w := fun q => hn.2.1.1 (Or.inr (q ▸ g1))
          have r1 : Rp fl fr sb' (n + 1) (fl y) A := (cc a (fun v => hn.2.2 w v w (Or.inr (Or.inr g1)) rfl) he.1).mono (by omega)
          have r2 : Rp fl fr sb' (n + 1) (fr y) B := (cc b (fun v => hn.2.1.2.2.2 w v w g1 rfl) he.2.2.1).mono (by omega)
          refine ⟨A ++ y :: (B ++ A1), B1, C1, z, m, by simp [g1], g2, g3, g4, by rw [g5]; simp, ⟨A, B, A1 ++ z :: e :: C1, r1, r2, by rw [h5 y hyw (fun q => he.2.1 q.symm)]; exact g6, by simp⟩⟩
      · rw [if_neg q] at hx; cases hx
/-- a node among all: its children, and what becomes of all when they change -/
theorem Rp.at {fl fr sb : Nat → Option Nat} {n p : Nat} {h : Option Nat} {O : List Nat} (hR : Rp fl fr sb n h O) (hn : O.Nodup) (hp : p ∈ O) :
    ∃ X A B Y, Rp fl fr sb n (fl p) A ∧ Rp fl fr sb n (fr p) B ∧ O = X ++ A ++ p :: (B ++ Y) ∧ ∀ (fl' fr' sb' : Nat → Option Nat) (A' B' : List Nat) (k : Nat), Rp fl' fr' sb' k (fl' p) A' → Rp fl' fr' sb' k (fr' p) B' → sb' p = sb p → (∀ y ∈ O, y ≠ p → y ∉ A → y ∉ B → fl' y = fl y ∧ fr' y = fr y ∧ sb' y = sb y) → Rp fl' fr' sb' (n + k) h (X ++ A' ++ p :: (B' ++ Y)) := by
  induction n generalizing h O with
  | zero =>
    cases h with
    | none => rw [Rp.no] at hR; rw [hR] at hp; cases hp
    | some x => exact hR.elim
  | succ n ih =>
    cases h with
    | none => rw [Rp.no] at hR; rw [hR] at hp; cases hp
    | some x =>
      obtain ⟨A0, B0, C0, a, b, c, rfl⟩ := hR
      simp only [List.nodup_append, List.nodup_cons, List.mem_append, List.mem_cons] at hn hp
      obtain ⟨n1, ⟨n2, n3, n4, n5⟩, n6⟩ := hn
      have xA : x ∉ A0 := fun w => n6 x w x (Or.inl rfl) rfl
      have xB : x ∉ B0 := fun w => n2 (Or.inl w)
      have xC : x ∉ C0 := fun w => n2 (Or.inr w)
      have AB : ∀ y, y ∈ A0 → y ∉ B0 := fun y h1 h2 => n6 y h1 y (Or.inr (Or.inl h2)) rfl
      have AC : ∀ y, y ∈ A0 → y ∉ C0 := fun y h1 h2 => n6 y h1 y (Or.inr (Or.inr h2)) rfl
      have BC : ∀ y, y ∈ B0 → y ∉ C0 := fun y h1 h2 => n5 y h1 y h2 rfl
      have e9 : ∀ k, n + 1 + k = (n + k) + 1 := fun k => by omega
      by_cases q : p = x
      · subst q
        refine ⟨[], A0, B0, C0, a.mono (by omega), b.mono (by omega), by simp, fun fl' fr' sb' A' B' k r1 r2 r3 r4 => ?_⟩
        rw [e9]
        refine ⟨A', B', C0, r1.mono (by omega), r2.mono (by omega), ?_, by simp⟩
        rw [r3]
        exact (c.congr (fun y hy => r4 y (by simp [hy]) (fun w => xC (w ▸ hy)) (fun w => AC y w hy) (fun w => BC y w hy))).mono (by omega)
      · have hp : p ∈ A0 ∨ p ∈ B0 ∨ p ∈ C0 := hp.elim Or.inl (fun w => Or.inr (w.resolve_left q))
        rcases hp with hp | hp | hp
        · obtain ⟨X, A, B, Y, g1, g2, rfl, g4⟩ := ih a n1 hp
          refine ⟨X, A, B, Y ++ x :: (B0 ++ C0), g1.mono (by omega), g2.mono (by omega), by simp, fun fl' fr' sb' A' B' k r1 r2 r3 r4 => ?_⟩
          simp only [List.mem_append, List.mem_cons, not_or] at xA AB AC r4
          have rx := r4 x (by simp) (fun w => q w.symm) xA.1.2 xA.2.2.1
          rw [e9]
          refine ⟨X ++ A' ++ p :: (B' ++ Y), B0, C0, ?_, ?_, ?_, by simp⟩
          · rw [rx.1]; exact g4 fl' fr' sb' A' B' k r1 r2 r3 (fun y hy w1 w2 w3 => r4 y (Or.inl (by simpa only [List.mem_append, List.mem_cons] using hy)) w1 w2 w3)
          · rw [rx.2.1]
            refine (b.congr (fun y hy => ?_)).mono (by omega)
            exact r4 y (Or.inr (Or.inr (Or.inl hy))) (fun w => AB p (Or.inr (Or.inl rfl)) (w ▸ hy)) (fun w => AB y (Or.inl (Or.inr w)) hy) (fun w => AB y (Or.inr (Or.inr (Or.inl w))) hy)
          · rw [rx.2.2]
            refine (c.congr (fun y hy => ?_)).mono (by omega)
            exact r4 y (Or.inr (Or.inr (Or.inr hy))) (fun w => AC p (Or.inr (Or.inl rfl)) (w ▸ hy)) (fun w => AC y (Or.inl (Or.inr w)) hy) (fun w => AC y (Or.inr (Or.inr (Or.inl w))) hy)
        · obtain ⟨X, A, B, Y, g1, g2, rfl, g4⟩ := ih b n3 hp
          refine ⟨A0 ++ x :: X, A, B, Y ++ C0, g1.mono (by omega), g2.mono (by omega), by simp, fun fl' fr' sb' A' B' k r1 r2 r3 r4 => ?_⟩
          simp only [List.mem_append, List.mem_cons, not_or] at xB AB BC r4
          have rx := r4 x (by simp) (fun w => q w.symm) xB.1.2 xB.2.2.1
          rw [e9]
          refine ⟨A0, X ++ A' ++ p :: (B' ++ Y), C0, ?_, ?_, ?_, by simp⟩
          · rw [rx.1]
            refine (a.congr (fun y hy => ?_)).mono (by omega)
            exact r4 y (Or.inl hy) (fun w => (AB y hy).2.1 w) (fun w => (AB y hy).1.2 w) (fun w => (AB y hy).2.2.1 w)
          · rw [rx.2.1]; exact g4 fl' fr' sb' A' B' k r1 r2 r3 (fun y hy w1 w2 w3 => r4 y (Or.inr (Or.inr (Or.inl (by simpa only [List.mem_append, List.mem_cons] using hy)))) w1 w2 w3)
          · rw [rx.2.2]
            refine (c.congr (fun y hy => ?_)).mono (by omega)
            exact r4 y (Or.inr (Or.inr (Or.inr hy))) (fun w => BC p (Or.inr (Or.inl rfl)) (w ▸ hy)) (fun w => BC y (Or.inl (Or.inr w)) hy) (fun w => BC y (Or.inr (Or.inr (Or.inl w))) hy)
        · obtain ⟨X, A, B, Y, g1, g2, rfl, g4⟩ := ih c n4 hp
          refine ⟨A0 ++ x :: (B0 ++ X), A, B, Y, g1.mono (by omega), g2.mono (by omega), by simp, fun fl' fr' sb' A' B' k r1 r2 r3 r4 => ?_⟩
          simp only [List.mem_append, List.mem_cons, not_or] at xC AC BC r4
          have rx := r4 x (by simp) (fun w => q w.symm) xC.1.2 xC.2.2.1
          rw [e9]
          refine ⟨A0, B0, X ++ A' ++ p :: (B' ++ Y), ?_, ?_, ?_, by simp⟩
          · rw [rx.1]
            refine (a.congr (fun y hy => ?_)).mono (by omega)
            exact r4 y (Or.inl hy) (fun w => (AC y hy).2.1 w) (fun w => (AC y hy).1.2 w) (fun w => (AC y hy).2.2.1 w)
          · rw [rx.2.1]
            refine (b.congr (fun y hy => ?_)).mono (by omega)
            exact r4 y (Or.inr (Or.inr (Or.inl hy))) (fun w => (BC y hy).2.1 w) (fun w => (BC y hy).1.2 w) (fun w => (BC y hy).2.2.1 w)
          · rw [rx.2.2]; exact g4 fl' fr' sb' A' B' k r1 r2 r3 (fun y hy w1 w2 w3 => r4 y (Or.inr (Or.inr (Or.inr (by simpa only [List.mem_append, List.mem_cons] using hy)))) w1 w2 w3)
