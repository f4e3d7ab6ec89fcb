/-! ===== Class and reference in one memory ===== -/
theorem WT.fo {S : MM} {F : Nat → Nat × Nat} {t : Nat} {X : Nat → GX} {kz : Nat → Nat} {Q : Ab} (h : WT S F t X kz Q) : FO S F := by
  obtain ⟨z, h⟩ := h
  exact h.2.2.2.2.2.2.2.2
/-- nothing of the class was written -/
theorem WT.kpR {S S' : MM} {F F' : Nat → Nat × Nat} {t : Nat} {X : Nat → GX} {kz : Nat → Nat} {Q : Ab} (h : WT S F t X kz Q) (hk : Keep (fun b => ¬ cO (F b).1) S S') (hf : ∀ b, b ∈ mL S → F' b = F b) (hFO : FO S' F') : WT S' F' t X kz Q := by
  obtain ⟨z, h⟩ := h
  have n : ∀ o, o ≠ 0 → o < 100 → ¬ (fun o => ¬ cO o) o := fun o h1 h2 q => q ⟨h1, h2⟩
  refine ⟨z, h.mv (O := fun o => ¬ cO o) hk hf hFO (h.1.kp (O := fun o => ¬ cO o) hk (n 20 (by decide) (by decide)) hf (fun p hp => ⟨Nat.le_refl _, fun k hk => rfl⟩) rfl rfl rfl rfl rfl rfl rfl rfl) (fun p hp => Or.inr ⟨n _ (by omega) (by omega), n _ (by omega) (by omega), n _ (by omega) (by omega), rfl, rfl, rfl, rfl, rfl, rfl⟩) (Or.inr ⟨n _ (by decide) (by decide), rfl, rfl⟩) (Or.inr ⟨n _ (by decide) (by decide), rfl⟩) (fun k hk => Or.inr ⟨n _ (by omega) (by omega), rfl, rfl⟩) (Or.inr ⟨n _ (by decide) (by decide), fun _ _ _ => rfl⟩) (Or.inr (n _ (by decide) (by decide))) (Or.inr ⟨n _ (by decide) (by decide), rfl, rfl⟩)⟩
/-- nothing of the reference was written -/
theorem MD.kpW {S S' : MM} {F F' : Nat → Nat × Nat} {t : Nat} {z : Nat → Nat} {Y : Nat → Nat → Nat} {R : Rb} {kz : Nat → Nat} {P : Nat → Prop} (h : MD S F t z Y R kz) (hk : Keep P S S') (hP : ∀ b, 100 ≤ (F b).1 → ¬ P b) (hf : ∀ b, b ∈ mL S → F' b = F b) (hFO : FO S' F') : MD S' F' t z Y R kz := by
  have np : ∀ {x o v}, F x = (o, v) → 100 ≤ o → ¬ P x := fun {x o v} e ho => hP x (by rw [e]; exact ho)
  have kt := hk.2.1 t (h 0).1.1 (np (h 0).2 (Nat.le_refl _))
  have kr : ∀ k, k ∈ mdL → eI S' (z k) = eI S (z k) ∧ eR S' (z k) = eR S (z k) := fun k hk9 => by
    have r := h 1 k hk9
    have := hk.2.1 _ r.2.2.1.1 (np r.2.1 (Nat.le_refl _))
    exact ⟨this.2.2.2.1, this.2.2.2.2.2⟩
  intro j
  match j with
  | 0 => exact ⟨hk.isO (h 0).1, (hf _ (h 0).1.1).trans (h 0).2⟩
  | 1 =>
    intro k hk9
    obtain ⟨a1, a2, a3, a4⟩ := h 1 k hk9
    exact ⟨(kt.2.1 _).trans a1, (hf _ a3.1).trans a2, hk.isO a3, (hk.1 _ a3.1).2.2.trans a4⟩
  | 2 =>
    intro p hp
    obtain ⟨a1, a2⟩ := h 2 p hp
    rw [(kr 0 (by decide)).2]
    exact ⟨a1, a2.keep hk (fun b hb => hP b (by omega)) hf⟩
  | 3 =>
    obtain ⟨a1, a2, a3⟩ := h 3
    refine ⟨(kt.1 _).trans a1, a2, ?_⟩
    unfold byR
    rw [(kr 1 (by decide)).1]; exact a3
  | 4 =>
    intro k hk9
    rcases h 4 k hk9 with ⟨a1, a2⟩ | ⟨a1, a2, a3, a4, a5, a6, a7, a8⟩
    · exact Or.inl ⟨a1, by rw [(kr 3 (by decide)).2]; exact a2⟩
    · refine Or.inr ⟨a1, by rw [(kr 3 (by decide)).2]; exact a2, hk.isO a3, (hk.1 _ a3.1).2.2.trans a4, (hf _ a3.1).trans a5, by rw [(kr 4 (by decide)).1]; exact a6, a7, ?_⟩
      unfold byR
      rw [(hk.2.1 _ a3.1 (np a5 (by omega))).2.2.2.1]
      exact a8
  | 5 =>
    intro b hb
    rw [(kr 5 (by decide)).1, (kr 6 (by decide)).1]; exact h 5 b hb
  | 6 =>
    obtain ⟨a1, a2, a3⟩ := h 6
    rw [MDf, (kr 7 (by decide)).1]
    exact ⟨(kt.1 _).trans a1, a2, a3⟩
  | 7 =>
    obtain ⟨a1, a2⟩ := h 7
    rw [MDf, (kr 9 (by decide)).1]
    exact ⟨(kt.1 _).trans a1, a2⟩
  | 8 =>
    intro a ha
    rw [(kr 11 (by decide)).1, (kr 12 (by decide)).1]; exact h 8 a ha
  | 9 =>
    obtain ⟨a1, a2, a3, a4⟩ := h 9
    exact ⟨(kt.1 _).trans a1, a2, (kt.1 _).trans a3, a4⟩
  | 10 =>
    intro k hk9
    obtain ⟨a1, a2, a3, B, a4⟩ := h 10 k hk9
    exact ⟨(kt.2.1 _).trans a1, (hf _ a4.1.1).trans a2, (hf _ a4.2.2.1.1).trans a3, B, a4.kp hk (np a2 (by decide)) (np a3 (by decide))⟩
  | 11 => exact h 11
  | 12 => exact hFO
  | n + 13 => trivial
/-- the law's memory: the class's object t, the reference's object m, the row o of one long; the script A lies outside of it, at r -/
def Lw (S : MM) (F : Nat → Nat × Nat) (t m o r : Nat) (A : List Int32) (X : Nat → GX) (kz : Nat → Nat) (Q : Ab) (z : Nat → Nat) (Y : Nat → Nat → Nat) (R : Rb) (k2 : Nat → Nat) : Prop := WT S F t X kz Q ∧ MD S F m z Y R k2 ∧ (isO S 18 o ∧ mN S o = 1 ∧ (F o).1 = 0) ∧ r = r ∧ A = A
section LAW
variable {S S' : MM} {F F' : Nat → Nat × Nat} {t m o r : Nat} {A : List Int32} {X X' : Nat → GX} {kz kz' : Nat → Nat} {Q Q' : Ab} {z : Nat → Nat} {Y : Nat → Nat → Nat} {R R' : Rb} {k2 k2' : Nat → Nat}
theorem Lw.lwo (h : Lw S F t m o r A X kz Q z Y R k2) : lwO S F o := ⟨h.2.2.1.1, h.2.2.1.2.1, fun q => q.1 h.2.2.1.2.2⟩
theorem Lw.scr {P : Nat → Prop} (h : Lw S F t m o r A X kz Q z Y R k2) (hk : Keep P S S') (hP : ∀ b, (F b).1 = 0 → ¬ P b) (hf : ∀ b, b ∈ mL S → F' b = F b) : ((isO S' 18 o ∧ mN S' o = 1 ∧ (F' o).1 = 0) ∧ r = r ∧ A = A) ∧ eJ S' o = eJ S o := by
  obtain ⟨-, -, ⟨a1, a2, a3⟩, -⟩ := h
  have ko := hk.2.1 o a1.1 (hP o a3)
  exact ⟨⟨⟨hk.isO a1, (hk.1 _ a1.1).2.2.trans a2, by rw [hf _ a1.1]; exact a3⟩, rfl, rfl⟩, ko.2.2.2.2.1⟩
theorem Lw.cls (h : Lw S F t m o r A X kz Q z Y R k2) (hq : wtQ S S' F t X' kz' Q') : ∃ F', Lw S' F' t m o r A X' kz' Q' z Y R k2 ∧ (∀ b, b ∈ mL S → F' b = F b) ∧ eJ S' o = eJ S o := by
  obtain ⟨F', h1, h2, h3⟩ := hq
  obtain ⟨s1, s2⟩ := h.scr h3 (fun b e q => q.1 e) h2
  exact ⟨F', ⟨h1, h.2.1.kpW h3 (fun b hb q => by have := q.2; omega) h2 h1.fo, s1⟩, h2, s2⟩
theorem Lw.ref {th : Nat} (h : Lw S F t m o r A X kz Q z Y R k2) (hq : mdW S S' F m R' k2' th) : ∃ F' z' Y', Lw S' F' t m o r A X kz Q z' Y' R' k2' ∧ mI S' 1551 m = nI th ∧ (∀ b, b ∈ mL S → F' b = F b) ∧ eJ S' o = eJ S o := by
  obtain ⟨F', z', Y', h1, h2, h3, h4⟩ := hq
  obtain ⟨s1, s2⟩ := h.scr h3 (fun b e q => by
    have q : 100 ≤ (F b).1 := q
    omega) h2
  exact ⟨F', z', Y', ⟨h.1.kpR (h3.mono (fun b _ q w => by
    have q : 100 ≤ (F b).1 := q
    have := w.2
    omega)) h2 (h1 12), h1, s1⟩, h4, h2, s2⟩
theorem Lw.out (h : Lw S F t m o r A X kz Q z Y R k2) (x : Int64) : Lw (loJ S o x) F t m o r A X kz Q z Y R k2 ∧ eJ (loJ S o x) o 0 = x := by
  have kp : Keep (fun b => b = o) S (loJ S o x) := Keep.rJ (P := fun b => b = o) Keep.rf rfl
  have o0 := h.2.2.1.2.2
  refine ⟨⟨h.1.kpR (kp.mono (fun b _ e q => ?_)) (fun _ _ => rfl) h.1.fo, h.2.1.kpW kp (fun b hb e => ?_) (fun _ _ => rfl) (h.2.1 12), ⟨kp.isO h.2.2.1.1, h.2.2.1.2.1, o0⟩, rfl, rfl⟩, ?_⟩
  · rw [e] at q; exact q.1 o0
  · rw [e, o0] at hb; omega
  · show va_up (eJ S) o (vp_updL (eJ S o) 0 x) o 0 = x
    rw [va_up_self]
    exact if_pos rfl
end LAW
