/-! ===== The reference: an event comes, its mathematics and its frames ===== -/
/-- the parents with their agents' ids, if all are there -/
def lkA (G : Gr) : List (Nat × Nat) → Option (List Nat)
  | [] => some []
  | x :: T => (lkE G x.1 x.2).bind fun e => (lkA G T).map (e :: ·)
theorem lkA_some {G : Gr} : ∀ {P : List (Nat × Nat)} {Q : List Nat}, P.map (fun x => lkE G x.1 x.2) = Q.map some → lkA G P = some Q
  | [], [], _ => rfl
  | [], e :: Q, h => by cases h
  | x :: T, [], h => by cases h
  | x :: T, e :: Q, h => by
    rw [List.map_cons, List.map_cons] at h
    injection h with h1 h2
    rw [lkA, h1, lkA_some h2]; rfl
theorem lkA_none {G : Gr} : ∀ {P : List (Nat × Nat)} {x : Nat × Nat}, x ∈ P → lkE G x.1 x.2 = none → lkA G P = none
  | [], _, h, _ => by cases h
  | y :: T, x, h, e => by
    rw [lkA]
    rcases List.mem_cons.1 h with w | w
    · rw [← w, e]; rfl
    · rw [lkA_none w e]
      cases lkE G y.1 y.2 <;> rfl
theorem skF_rsv (G : Gr) (L : List Nat) : ∀ P, skF G L P = lkA G (rsv L P)
  | [] => rfl
  | x :: T => by
    rw [skF, skF_rsv G L T]
    rfl
/-- the fault of an event that isn't known, and whose number isn't too large -/
noncomputable def nc_eV (G : Gr) (a nu ix : Nat) (PP : List (Nat × Nat)) (ins : Prop) : Nat := if (agE G a).length < nu then 5 else match lkA G PP with
  | none => 5
  | some Q => fltV G a nu ix Q ins
/-- an event comes: the graph behind it, its fault -/
def evX (G : Gr) (T : Tr) (a nu ix : Nat) (PP : List (Nat × Nat)) (oc : Option Nat) (G' : Gr) (T' : Tr) (f : Nat) : Prop := f = nc_eV G a nu ix PP (oc ≠ none) ∧ ((f ≠ 0 ∧ G' = G ∧ T' = T) ∨ (f = 0 ∧ ∃ Q, lkA G PP = some Q ∧ Q.length ≤ 16 ∧ StpE G T a Q oc ix (slt G a) G' T'))
theorem nc_eV1 {G : Gr} {a nu ix : Nat} {PP : List (Nat × Nat)} {ins : Prop} (h : (agE G a).length < nu) : nc_eV G a nu ix PP ins = 5 := if_pos h
theorem nc_eV2 {G : Gr} {a nu ix : Nat} {PP : List (Nat × Nat)} {ins : Prop} (h : ¬ (agE G a).length < nu) (h2 : lkA G PP = none) : nc_eV G a nu ix PP ins = 5 := by
  unfold nc_eV
  rw [if_neg h, h2]
theorem nc_eV3 {G : Gr} {a nu ix : Nat} {PP : List (Nat × Nat)} {ins : Prop} {Q : List Nat} (h : ¬ (agE G a).length < nu) (h2 : lkA G PP = some Q) : nc_eV G a nu ix PP ins = fltV G a nu ix Q ins := by
  unfold nc_eV
  rw [if_neg h, h2]
/-- the found parents up to j are unrelated to all -/
def noR (G : Gr) (Q : List Nat) (j : Nat) : Prop := ∀ j', j' < j → ∀ i, i < Q.length → i ≠ j' → Q.getD i 0 ≠ Q.getD j' 0 ∧ G.bef (Q.getD j' 0) (Q.getD i 0) = false
theorem rel_of {G : Gr} {Q : List Nat} {i j : Nat} (hi : i < Q.length) (hj : j < Q.length) (hn : i ≠ j) (h : Q.getD i 0 = Q.getD j 0 ∨ G.bef (Q.getD j 0) (Q.getD i 0) = true) : relP G Q := by
  rcases Nat.lt_or_gt_of_ne hn with w | w
  · refine ⟨j, hj, i, w, ?_⟩
    rcases h with h | h
    · exact Or.inl h
    · exact Or.inr (Or.inl h)
  · refine ⟨i, hi, j, w, ?_⟩
    rcases h with h | h
    · exact Or.inl h.symm
    · exact Or.inr (Or.inr h)
theorem noR.rel {G : Gr} {Q : List Nat} (h : noR G Q Q.length) : ¬ relP G Q := fun ⟨k, hk, j, hj, hr⟩ => by
  have h1 := h j (by omega) k hk (by omega)
  have h2 := h k hk j (by omega) (by omega)
  rcases hr with e | e | e
  · exact h1.1 e.symm
  · rw [h2.2] at e; cases e
  · rw [h1.2] at e; cases e
/-- of unrelated events no two are of one agent -/
theorem rel_len {G : Gr} (h : G.ok) {Q : List Nat} (hr : ¬ relP G Q) (hl : ∀ e, e ∈ Q → e < G.n) : Q.length ≤ 16 := by
  have gd : ∀ i (hi : i < Q.length), Q.getD i 0 = Q[i] := fun i hi => by rw [List.getD_eq_getElem?_getD, List.getElem?_eq_getElem hi]; rfl
  have nd : (Q.map (fun k => (G.ev k).sl)).Nodup := by
    refine List.pairwise_map.2 (List.pairwise_iff_getElem.2 (fun i j hi hj hij e => hr ?_))
    have li := hl _ (List.getElem_mem hi)
    have lj := hl _ (List.getElem_mem hj)
    refine ⟨j, hj, i, hij, ?_⟩
    rw [gd i hi, gd j hj]
    rcases Nat.lt_trichotomy Q[i] Q[j] with w | w | w
    · exact Or.inr (Or.inr (by rw [Gr.bef_same h li lj e]; exact decide_eq_true w))
    · exact Or.inl w
    · exact Or.inr (Or.inl (by rw [Gr.bef_same h lj li e.symm]; exact decide_eq_true w))
  have hs : (Q.map (fun k => (G.ev k).sl)) ⊆ List.range G.m := fun s hs => by
    obtain ⟨k, k1, rfl⟩ := List.mem_map.1 hs
    exact List.mem_range.2 (h.sl1 k (hl k k1))
  have := List.Nodup.length_le_of_subset nd hs
  rw [List.length_map, List.length_range] at this
  exact Nat.le_trans this h.hm
theorem srt_ex {G : Gr} (h : G.ok) {P : List Nat} (hn : P.Nodup) (hl : ∀ e, e ∈ P → e < G.n) : ∃ L, SrtK G P L P.length := by
  refine ⟨P.mergeSort (fun p q => decide (G.key p ≤ G.key q)), List.length_mergeSort P, fun x => by rw [List.take_length]; exact List.mem_mergeSort, ?_⟩
  have h1 := List.pairwise_mergeSort (le := fun p q => decide (G.key p ≤ G.key q)) (fun a b c h1 h2 => decide_eq_true (Nat.le_trans (of_decide_eq_true h1) (of_decide_eq_true h2))) (fun a b => by
    rw [Bool.or_eq_true, decide_eq_true_iff, decide_eq_true_iff]; exact Nat.le_total _ _) P
  have h2 := (List.mergeSort_perm P (fun p q => decide (G.key p ≤ G.key q))).nodup_iff.2 hn
  refine List.Pairwise.imp_of_mem (fun {x y} hx hy q => ?_) (h1.and h2)
  have lx := hl x (List.mem_mergeSort.1 hx)
  have ly := hl y (List.mem_mergeSort.1 hy)
  exact Nat.lt_of_le_of_ne (of_decide_eq_true q.1) (fun e => q.2 (Gr.key_inj h lx ly e))
theorem srt_exE {G : Gr} (h : G.ok) {P : List Nat} (hn : P.Nodup) (hl : ∀ e, e ∈ P → e < G.n) (s a : Nat) : ∃ L, SrtK (eGr G s a) P L P.length := by
  obtain ⟨L, l1, l2, l3⟩ := srt_ex h hn hl
  refine ⟨L, l1, l2, List.Pairwise.imp_of_mem (fun {x y} hx hy q => ?_) l3⟩
  have mx := (l2 x).1 hx
  have my := (l2 y).1 hy
  rw [List.take_length] at mx my
  rw [eGr_key h (hl x mx), eGr_key h (hl y my)]; exact q
/-- faults -/
theorem flt_6a {G : Gr} {a nu x : Nat} {P : List Nat} {ins : Prop} (h : relP G P) : fltV G a nu x P ins = 6 := ift_t h
theorem flt_6b {G : Gr} {a nu x : Nat} {P : List Nat} {ins : Prop} (h : ∃ s, s < G.m ∧ G.ag s = a ∧ G.jn P s ≠ nu) : fltV G a nu x P ins = 6 := by
  unfold fltV
  by_cases h1 : relP G P
  · exact ift_t h1
  · rw [ift_f h1]; exact ift_t h
theorem flt_6c {G : Gr} {a nu x : Nat} {P : List Nat} {ins : Prop} (h : c1 G (G.jn P) G.n < x ∨ (x = c1 G (G.jn P) G.n ∧ ¬ ins)) : fltV G a nu x P ins = 6 := by
  unfold fltV
  by_cases h1 : relP G P
  · exact ift_t h1
  · rw [ift_f h1]
    by_cases h2 : ∃ s, s < G.m ∧ G.ag s = a ∧ G.jn P s ≠ nu
    · exact ift_t h2
    · rw [ift_f h2]; exact ift_t h
theorem flt_7 {G : Gr} {a nu x : Nat} {P : List Nat} {ins : Prop} (h1 : ¬ relP G P) (h2 : ¬ ∃ s, s < G.m ∧ G.ag s = a ∧ G.jn P s ≠ nu) (h3 : ¬ (c1 G (G.jn P) G.n < x ∨ (x = c1 G (G.jn P) G.n ∧ ¬ ins))) : (G.n + 1 ≤ 8192 ∧ (hasAg G a ∨ G.m < 16) → fltV G a nu x P ins = 0) ∧ (¬ (G.n + 1 ≤ 8192 ∧ (hasAg G a ∨ G.m < 16)) → fltV G a nu x P ins = 7) := by
  unfold fltV
  rw [ift_f h1, ift_f h2, ift_f h3]
  exact ⟨fun h => ift_t h, fun h => ift_f h⟩
/-- what find says -/
def lkI : Option Nat → Int32
  | none => -1
  | some e => nI e
theorem fnV_lk {G : Gr} (a : Nat) {x : Nat} (hx : x < 2147483648) : fnV G a (nI x) = lkI (lkE G a x) := by
  unfold fnV lkE
  rw [if_neg (nI_pos hx), nI_clamp hx]
  cases (agE G a)[x]? <;> rfl
theorem agE_8192 {G : Gr} (h : G.ok) (a : Nat) : (agE G a).length ≤ 8192 := by
  have h1 := List.length_filter_le (fun k => decide (G.ag (G.ev k).sl = a)) (List.range G.n)
  rw [List.length_range] at h1
  exact Nat.le_trans h1 h.hn
theorem lkE_big {G : Gr} (h : G.ok) {a x : Nat} (hx : 8192 < x) : lkE G a x = none := List.getElem?_eq_none (by have := agE_8192 h a; omega)
/-- the row of found parents -/
def evZ (kz : Nat → Nat) (G : Gr) (a nu m : Nat) : Nat → Nat := if nu ≤ (agE G a).length ∧ kz 24 < m then upF kz 24 (2 * m) else kz
def evC1 (kz : Nat → Nat) (G : Gr) (a nu m : Nat) : Nat := if nu ≤ (agE G a).length ∧ kz 24 < m then 1 else 0
def evC2 (kz : Nat → Nat) (G : Gr) (a nu m : Nat) : Nat := if nu ≤ (agE G a).length ∧ kz 24 < m then 2 * m else 0
noncomputable def nc_e1 (kz : Nat → Nat) (G : Gr) (a nu ix : Nat) (PP : List (Nat × Nat)) (oc : Option Nat) : Nat := evC1 kz G a nu PP.length + ift (nc_eV G a nu ix PP (oc ≠ none) = 0) (ad1 G (slt G a)) 0
noncomputable def nc_e2 (kz : Nat → Nat) (G : Gr) (a nu ix : Nat) (PP : List (Nat × Nat)) (oc : Option Nat) : Nat := evC2 kz G a nu PP.length + ift (nc_eV G a nu ix PP (oc ≠ none) = 0) (ad2 G (slt G a)) 0
theorem evZ_ge {kz : Nat → Nat} {G : Gr} {a nu m : Nat} (h : nu ≤ (agE G a).length) : m ≤ evZ kz G a nu m 24 := by
  unfold evZ
  by_cases c : kz 24 < m
  · rw [if_pos ⟨h, c⟩, upF_s]; omega
  · rw [if_neg (fun w => c w.2)]; omega
theorem evZ_o {kz : Nat → Nat} {G : Gr} {a nu m k : Nat} (h : k ≠ 24) : evZ kz G a nu m k = kz k := by
  unfold evZ
  split
  · exact upF_o h
  · rfl
/-- rows D (perhaps replaced), fields fs of the object and the graph of peer n were written -/
def rH (n : Nat) (D fs : List Nat) (S S' : MM) (F F' : Nat → Nat × Nat) (t : Nat) (z z' : Nat → Nat) : Prop := Keep (fun c => c = t ∨ (∃ k, k ∈ D ∧ c = z k) ∨ (F c).1 = 101 + n) S S' ∧ (∀ b, b ∈ mL S → F' b = F b) ∧ (∀ f, f ∉ fs → mI S' f t = mI S f t) ∧ (∀ f, (∀ k, k ∈ D → f ≠ 1500 + k) → mR S' f t = mR S f t) ∧ ∀ k, z' k = z k ∨ (k ∈ D ∧ z' k ∉ mL S)
section RHS
variable {n : Nat} {D D' fs fs' : List Nat} {S S1 S2 : MM} {F F1 F2 : Nat → Nat × Nat} {t : Nat} {z z1 z2 : Nat → Nat}
theorem rH.rf : rH n D fs S S F F t z z := ⟨Keep.rf, fun _ _ => rfl, fun _ _ => rfl, fun _ _ => rfl, fun _ => Or.inl rfl⟩
theorem rH.tr (h1 : rH n D fs S S1 F F1 t z z1) (h2 : rH n D fs S1 S2 F1 F2 t z1 z2) : rH n D fs S S2 F F2 t z z2 := by
  obtain ⟨a1, a2, a3, a4, a5⟩ := h1
  obtain ⟨b1, b2, b3, b4, b5⟩ := h2
  refine ⟨Keep.trN a1 b1 (fun b hb q => ?_), fun b hb => (b2 b (a1.1 b hb).1).trans (a2 b hb), fun f hf => (b3 f hf).trans (a3 f hf), fun f hf => (b4 f hf).trans (a4 f hf), fun k => ?_⟩
  · rcases q with e | ⟨k, k1, e⟩ | e
    · exact Or.inl e
    · rcases a5 k with w | w
      · exact Or.inr (Or.inl ⟨k, k1, e.trans w⟩)
      · exact absurd (e ▸ hb) w.2
    · exact Or.inr (Or.inr (by rw [← a2 b hb]; exact e))
  · rcases b5 k with w | w
    · rw [w]; exact a5 k
    · exact Or.inr ⟨w.1, fun q => w.2 (a1.1 _ q).1⟩
theorem rH.mono (h : rH n D fs S S1 F F1 t z z1) (hD : ∀ k, k ∈ D → k ∈ D') (hf : ∀ f, f ∈ fs → f ∈ fs') : rH n D' fs' S S1 F F1 t z z1 := by
  obtain ⟨a1, a2, a3, a4, a5⟩ := h
  refine ⟨a1.mono (fun b _ q => ?_), a2, fun f hf9 => a3 f (fun q => hf9 (hf f q)), fun f hf9 => a4 f (fun k hk => hf9 k (hD k hk)), fun k => ?_⟩
  · rcases q with e | ⟨k, k1, e⟩ | e
    · exact Or.inl e
    · exact Or.inr (Or.inl ⟨k, hD k k1, e⟩)
    · exact Or.inr (Or.inr e)
  · rcases a5 k with w | w
    · exact Or.inl w
    · exact Or.inr ⟨hD k w.1, w.2⟩
theorem rG.rh (h : rG D fs S S1 F F1 t z z1) (n : Nat) : rH n D fs S S1 F F1 t z z1 := ⟨h.1.mono (fun b _ q => by
  rcases q with e | e
  · exact Or.inl e
  · exact Or.inr (Or.inl e)), h.2⟩
theorem rH.zo (h : rH n D fs S S1 F F1 t z z1) {k : Nat} (hk : k ∉ D) : z1 k = z k := (h.2.2.2.2 k).resolve_right (fun q => hk q.1)
/-- a row of the object that is none of D -/
theorem rH.row (h : rH n D fs S S1 F F1 t z z1) {Y : Nat → Nat → Nat} {R : Rb} {kz : Nat → Nat} (hM : MD S F t z Y R kz) (hD : ∀ k, k ∈ D → k ∈ mdL) {j : Nat} (hj : j ∈ mdL) (hn : j ∉ D) : eI S1 (z j) = eI S (z j) ∧ eJ S1 (z j) = eJ S (z j) ∧ eR S1 (z j) = eR S (z j) := by
  have := h.1.2.1 _ (hM 1 j hj).2.2.1.1 (fun q => by
    rcases q with e | ⟨k, k1, e⟩ | e
    · exact rK.nt hM hj e.symm
    · exact rK.nz hM hj (hD k k1) (fun w => hn (w ▸ k1)) e
    · rw [(hM 1 j hj).2.1] at e
      have e : 100 = 101 + n := e
      omega)
  exact ⟨this.2.2.2.1, this.2.2.2.2.1, this.2.2.2.2.2⟩
theorem rH.k100 (h : rH n D fs S S1 F F1 t z z1) {Y : Nat → Nat → Nat} {R : Rb} {kz : Nat → Nat} (hM : MD S F t z Y R kz) (hD : ∀ k, k ∈ D → k ∈ mdL) : Keep (fun c => 100 ≤ (F c).1) S S1 := h.1.mono (fun b _ q => by
  rcases q with e | ⟨k, k1, e⟩ | e
  · rw [e, (hM 0).2]; exact Nat.le_refl _
  · rw [e, (hM 1 k (hD k k1)).2.1]; exact Nat.le_refl _
  · omega)
end RHS
