/-! ===== the size of a column in a message; packing in the writer ===== -/
def vwN (n : Nat) : Nat := if 128 ≤ n then (if 16384 ≤ n then 3 else 2) else 1
def szN (vs : List Int32) : Nat := if vs.length ≤ 32768 then vs.length + vwN vs.length else 32768
theorem pw_pack {S S' : MM} {F : Nat → Nat × Nat} {j w pk pl me : Nat} {a d : Nat → Nat} {V : Nat → List Int32} {cap : Nat → Nat} {M : List Nat} {R : List Nat} (h : PW S F j w pk pl me a d V cap M) (hp : pkP S S' pk (a 4) (a 5) (d 4) (a 6) (a 7) R) : ∃ F' d' o', PW S' F' j w pk pl me (updN a 7 o') d' (updI V 4 (packV R)) (updN cap 4 (capN (V 4).length (cap 4) 0)) M ∧ (∀ b, b ∈ mL S → F' b = F b) ∧ Keep (fun b => (F b).1 = j) S S' ∧ mN S' o' = odN (mN S (a 7)) R.length := by
  obtain ⟨f1, f2, f3, f4, hM, h1, h2, h3, h4, hW, hF, hj, hK, hn, ho⟩ := h
  obtain ⟨e', o', ⟨a1, a2, a3, a4, a5⟩, b1, b2, b3⟩ := hp
  obtain ⟨c1, c2, c3, c4, c5⟩ := hW 4 (by decide)
  have hmem : ∀ b, b ∈ mL (clr S (a 4)) ↔ b ∈ mL S := fun b => Iff.rfl
  have hk : Keep (pkW pk (a 4) (d 4) (a 6) (a 7)) S S' := (Keep.sI (P := pkW pk (a 4) (d 4) (a 6) (a 7)) (Keep.sI (P := pkW pk (a 4) (d 4) (a 6) (a 7)) Keep.rf (Or.inr (Or.inl rfl))) (Or.inr (Or.inl rfl))).tr a2
  have eo : e' ≠ o' := isO_ne a1.2.2.1 b1.2.2.2.2.2.2.1 (by decide)
  have hf : ∀ b, b ∈ mL S → (if b = e' then (j, 49) else if b = o' then (j, 6) else F b) = F b := fun b hb => by
    by_cases q : b = e'
    · rw [if_pos q]
      rcases a3 with u | u
      · rw [q, u, c3]
      · exact absurd (q ▸ hb) u
    · rw [if_neg q]
      by_cases q2 : b = o'
      · rw [if_pos q2]
        rcases b2 with u | u
        · rw [q2, u, ho]
        · exact absurd (q2 ▸ hb) u
      · rw [if_neg q2]
  have fe : (if e' = e' then (j, 49) else if e' = o' then (j, 6) else F e') = (j, 49) := if_pos rfl
  have fo : (if o' = e' then (j, 49) else if o' = o' then (j, 6) else F o') = (j, 6) := by rw [if_neg (Ne.symm eo), if_pos rfl]
  have nP : ∀ {b r : Nat}, F b = (j, r) → r ≠ 4 → r ≠ 48 → r ≠ 49 → r ≠ 5 → r ≠ 6 → ¬ pkW pk (a 4) (d 4) (a 6) (a 7) b := fun hb r1 r2 r3 r4 r5 z => by
    rcases z with z | z | z | z | z
    · exact f_ne hb f4 r1 z
    · exact f_ne hb c2 r2 z
    · exact f_ne hb c3 r3 z
    · exact f_ne hb hn r4 z
    · exact f_ne hb ho r5 z
  have kw := hk.2.1 w hM.1.1 (nP f1 (by decide) (by decide) (by decide) (by decide) (by decide))
  refine ⟨fun b => if b = e' then (j, 49) else if b = o' then (j, 6) else F b, updN d 4 e', o', ⟨(hf w hM.1.1).trans f1, (hf pl hM.2.2.1.1).trans f2, (hf me hM.2.2.2.2.2.1.1).trans f3, (hf pk h3.1).trans f4, hM.keep hk (nP f1 (by decide) (by decide) (by decide) (by decide) (by decide)) (nP f2 (by decide) (by decide) (by decide) (by decide) (by decide)) (nP f3 (by decide) (by decide) (by decide) (by decide) (by decide)), fun k hk9 => ?_, (kw.2.1 _).trans h2, hk.isO h3, b1.2.1, fun k hk9 => ?_, fun b hb => ?_, hj, b1, (hf (a 6) hK.2.2.2.1.1).trans hn, fo⟩, hf, hk.mono (fun b _ z => ?_), b3⟩
  · rw [updN_o (show k ≠ 7 by omega)]
    exact (kw.2.1 _).trans (h1 k hk9)
  · rw [updN_o (show k ≠ 7 by omega)]
    by_cases q : k = 4
    · subst q
      rw [updN_s, updI_s, updN_s]
      refine ⟨a1, (hf (a 4) c1.1.1).trans c2, fe, ?_, ?_⟩
      · rw [a4]
        have z0 : mI (clr S (a 4)) 202 (a 4) = 0 := by
          show mI (sI (sI S 201 (a 4) 0) 202 (a 4) 0) 202 (a 4) = 0
          rw [mI_sI, if_pos ⟨rfl, rfl⟩]
        rw [z0, List.length_nil, Nat.zero_add]
      · rw [a5, ← c5]; rfl
    · rw [updN_o q, updI_o q, updN_o q]
      exact (hW k hk9).keep hk (nP (hW k hk9).2.1 (by omega) (by omega) (by omega) (by omega) (by omega)) (nP (hW k hk9).2.2.1 (by omega) (by omega) (by omega) (by omega) (by omega)) hf
  · by_cases q : b = e'
    · rw [q]; exact a1.2.2.1.1
    · by_cases q2 : b = o'
      · rw [q2]; exact b1.2.2.2.2.2.2.1.1
      · have hb : (if b = e' then (j, 49) else if b = o' then (j, 6) else F b) ≠ (0, 0) := hb
        rw [if_neg q, if_neg q2] at hb
        exact (hk.1 b (hF b hb)).1
  · rcases z with z | z | z | z | z
    · rw [z, f4]
    · rw [z, c2]
    · rw [z, c3]
    · rw [z, hn]
    · rw [z, ho]
