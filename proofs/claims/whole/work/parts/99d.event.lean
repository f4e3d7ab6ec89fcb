/-! ===== PatchReader.bringEvent ===== -/
def slt (G : Gr) (a : Nat) : Nat := ((List.range G.m).find? (fun s => decide (G.ag s = a))).getD G.m
section FLT
variable {G : Gr} {a nu x : Nat} {P : List Nat} {ins : Prop}
theorem slt_has (h : G.ok) {s : Nat} (hs : s < G.m) (e : G.ag s = a) : slt G a = s := by
  unfold slt
  cases ef : (List.range G.m).find? (fun s => decide (G.ag s = a)) with
  | none =>
    have := List.find?_eq_none.mp ef s (List.mem_range.mpr hs)
    exact absurd (decide_eq_true e) this
  | some t =>
    have h1 := of_decide_eq_true (List.find?_some (p := fun s => decide (G.ag s = a)) ef)
    have h2 := List.mem_range.mp (List.mem_of_find?_eq_some ef)
    exact h.ag2 t s h2 hs (h1.trans e.symm)
theorem slt_no (h : ¬ hasAg G a) : slt G a = G.m := by
  unfold slt
  rw [List.find?_eq_none.mpr (fun s hs z => h ⟨s, List.mem_range.mp hs, of_decide_eq_true z⟩)]; rfl
theorem flt0 (h : fltV G a nu x P ins = 0) : ¬ relP G P ∧ (∀ s, s < G.m → G.ag s = a → G.jn P s = nu) ∧ x ≤ c1 G (G.jn P) G.n ∧ (¬ ins → x < c1 G (G.jn P) G.n) ∧ G.n < 8192 ∧ (hasAg G a ∨ G.m < 16) := by
  unfold fltV at h
  by_cases h1 : relP G P
  · rw [ift_t h1] at h; cases h
  rw [ift_f h1] at h
  by_cases h2 : ∃ s, s < G.m ∧ G.ag s = a ∧ G.jn P s ≠ nu
  · rw [ift_t h2] at h; cases h
  rw [ift_f h2] at h
  by_cases h3 : c1 G (G.jn P) G.n < x ∨ (x = c1 G (G.jn P) G.n ∧ ¬ ins)
  · rw [ift_t h3] at h; cases h
  rw [ift_f h3] at h
  by_cases h4 : G.n + 1 ≤ 8192 ∧ (hasAg G a ∨ G.m < 16)
  · refine ⟨h1, fun s hs e => Decidable.byContradiction (fun z => h2 ⟨s, hs, e, z⟩), Nat.le_of_not_lt (fun z => h3 (Or.inl z)), fun hi => ?_, h4.1, h4.2⟩
    exact Nat.lt_of_le_of_ne (Nat.le_of_not_lt (fun z => h3 (Or.inl z))) (fun z => h3 (Or.inr ⟨z, hi⟩))
  · rw [ift_f h4] at h; cases h
theorem flt_enp (hG : G.ok) {oc : Option Nat} (h : fltV G a nu x P (oc ≠ none) = 0) (hn : nu = (agE G a).length) (ha : a < 256) (hP : P.length ≤ 16) (hlt : ∀ p, p ∈ P → p < G.n) (hc : ∀ c, oc = some c → c < 2000000) : EnP G a P oc x (slt G a) := by
  obtain ⟨h1, h2, h3, h4, h5, h6⟩ := flt0 h
  have nr : ∀ j k, j < k → k < P.length → ¬ rel2 G (P.getD j 0) (P.getD k 0) := fun j k hj hk z => h1 ⟨k, hk, j, hj, z⟩
  have gd : ∀ p, p ∈ P → ∃ k, k < P.length ∧ P.getD k 0 = p := fun p hp => by
    obtain ⟨k, hk, e⟩ := List.getElem_of_mem hp
    exact ⟨k, hk, by rw [List.getD_eq_getElem?_getD, List.getElem?_eq_getElem hk]; exact e⟩
  refine ⟨h5, ha, hP, ?_, hlt, fun p q hp hq => ?_, ?_, ?_, fun c e => ⟨hc c e, h3⟩, fun e => h4 (fun z => z e)⟩
  · refine List.pairwise_iff_getElem.mpr (fun i j hi hj hij e => ?_)
    refine nr i j hij hj (Or.inl ?_)
    rw [List.getD_eq_getElem?_getD, List.getElem?_eq_getElem hi, List.getD_eq_getElem?_getD, List.getElem?_eq_getElem hj]
    exact e
  · cases hb : G.bef p q with
    | false => rfl
    | true =>
      obtain ⟨j, hj, ej⟩ := gd p hp
      obtain ⟨k, hk, ek⟩ := gd q hq
      rcases Nat.lt_trichotomy j k with z | z | z
      · exact absurd (Or.inr (Or.inr (by rw [ej, ek]; exact hb))) (nr j k z hk)
      · have : p = q := by rw [← ej, ← ek, z]
        subst this
        exact absurd hb (by rw [Gr.bef_irr hG (hlt p hp)]; exact Bool.false_ne_true)
      · exact absurd (Or.inr (Or.inl (by rw [ej, ek]; exact hb))) (nr k j z hj)
  · by_cases q : hasAg G a
    · obtain ⟨s, hs, e⟩ := q
      rw [slt_has hG hs e]
      exact Or.inl ⟨hs, e⟩
    · rw [slt_no q]
      exact Or.inr ⟨rfl, h6.elim (fun z => absurd z q) id, fun t ht e => q ⟨t, ht, e⟩⟩
  · by_cases q : hasAg G a
    · obtain ⟨s, hs, e⟩ := q
      rw [slt_has hG hs e, h2 s hs e, hn, ← e, agE_sl hG hs, evL_len]
    · rw [slt_no q]
      have c0 : G.cn G.m = 0 := Gr.cnt_m hG (Nat.le_refl _) (Nat.le_refl _)
      have j0 := Gr.jn_cnt hG hlt G.m
      omega
end FLT
