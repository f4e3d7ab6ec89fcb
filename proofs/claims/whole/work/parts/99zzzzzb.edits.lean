/-! ===== Calls that write: their edits stand in order ===== -/
section EDI
variable {G G' : Gr} {T T' : Tr} {p s i n0 : Nat}
theorem bfr_of {x y : Nat} (hn : T.od.Nodup) (hx : x ∈ T.od) (hy : y ∈ T.od) (h : ixO T.od x < ixO T.od y) : bfr T x y := by
  obtain ⟨U, V, e⟩ := List.append_of_mem hx
  rw [ixO_at hn e] at h
  have hy2 := hy
  rw [e] at hy2
  rcases List.mem_append.1 hy2 with w | w
  · obtain ⟨U1, U2, rfl⟩ := List.append_of_mem w
    have e2 : T.od = U1 ++ y :: (U2 ++ x :: V) := by rw [e]; simp
    rw [ixO_at hn e2] at h
    simp at h
    omega
  · rcases List.mem_cons.1 w with w | w
    · rw [w, ixO_at hn e] at h; omega
    · obtain ⟨V1, V2, rfl⟩ := List.append_of_mem w
      exact ⟨U, V1, V2, e⟩
theorem bfr_tr {x y z : Nat} (hn : T.od.Nodup) (h1 : bfr T x y) (h2 : bfr T y z) : bfr T x z := bfr_of hn (bfr_mem h1).1 (bfr_mem h2).2 (Nat.lt_trans (ixO_bfr hn h1) (ixO_bfr hn h2))
theorem bfr_or {x y : Nat} (hn : T.od.Nodup) (hx : x ∈ T.od) (hy : y ∈ T.od) (hne : x ≠ y) : bfr T x y ∨ bfr T y x := by
  rcases Nat.lt_trichotomy (ixO T.od x) (ixO T.od y) with w | w | w
  · exact Or.inl (bfr_of hn hx hy w)
  · exfalso
    obtain ⟨U, V, e⟩ := List.append_of_mem hx
    obtain ⟨U', V', e'⟩ := List.append_of_mem hy
    rw [ixO_at hn e, ixO_at hn e'] at w
    have := List.append_inj (e.symm.trans e') w
    injection this.2 with q _
    exact hne q
  · exact Or.inr (bfr_of hn hy hx w)
/-- nodes put in one behind another -/
theorem ins_edx (hp : p < 256) : ∀ {L : List Nat} {j : Nat} {G1 : Gr} {T1 : Tr}, Run p s (insO (i + j) L) G1 T1 G' T' → GT G1 T1 → (L ≠ [] → OwSl G1 p s) → G1.n = n0 + j → (∀ k k', k < k' → k' < j → bfr T1 (n0 + k + 1) (n0 + k' + 1)) → (∀ k, k < j → (G1.ev (n0 + k)).ch ≠ none) → (0 < j → vis G1 (n0 + j) = true ∧ n0 + j ∈ T1.od ∧ rkN G1 T1 (n0 + j) + 1 = i + j) → (∀ k k', k < k' → k' < j + L.length → bfr T' (n0 + k + 1) (n0 + k' + 1)) ∧ (∀ k, k < j + L.length → (G'.ev (n0 + k)).ch ≠ none)
  | [], j, G1, T1, h, hg, hs, hn, h1, h2, h3 => by
    obtain ⟨rfl, rfl⟩ := h
    exact ⟨h1, h2⟩
  | c :: L, j, G1, T1, h, hg, hs, hn, h1, h2, h3 => by
    obtain ⟨G2, T2, a1, a2⟩ := h
    have hs := hs (fun q => by cases q)
    obtain ⟨A, B, c1, c2, c3, c4, c5, c6, c7, c8⟩ := a1.insA (fun q => by cases q) hg hs hp
    obtain ⟨n1, n2, n3, n4⟩ := a1.nx hs
    have nd := hg.2.2.1.2.1
    have nd2 := n4.2.2.1.2.1
    have kb := ((a1.st1 hs hg.1).keep hg).2.2.2.2.2.1
    rw [hn] at c2 c6 c8
    have key : 0 < j → bfr T2 (n0 + j) (n0 + j + 1) := fun hj => by
      obtain ⟨v1, v2, v3⟩ := h3 hj
      have hA : n0 + j ∈ A := by
        have v4 := v2
        rw [c1] at v4
        rcases List.mem_append.1 v4 with w | w
        · exact w
        · exfalso
          obtain ⟨U, V, rfl⟩ := List.append_of_mem w
          have e1 : T1.od = (A ++ U) ++ (n0 + j) :: V := by rw [c1]; simp
          rw [rkN_at nd e1, List.filter_append, List.length_append, c3] at v3
          omega
      obtain ⟨U, V, rfl⟩ := List.append_of_mem hA
      exact ⟨U, V, B, by rw [c2]; simp⟩
    have a2 : Run p s (insO (i + j + 1) L) G2 T2 G' T' := a2
    rw [show i + j + 1 = i + (j + 1) by omega] at a2
    have r := ins_edx hp (j := j + 1) a2 n4 (fun _ => n3) (by omega) (fun k k' hk hk' => ?_) (fun k hk => ?_) (fun _ => ⟨c6, ?_, ?_⟩)
    · rw [List.length_cons, show j + (L.length + 1) = j + 1 + L.length by omega]
      exact r
    · by_cases e : k' = j
      · subst e
        by_cases e2 : k + 1 = k'
        · have := key (by omega)
          rw [show n0 + k + 1 = n0 + k' by omega]
          exact this
        · have b1 := kb _ _ (h1 k (k' - 1) (by omega) (by omega))
          rw [show n0 + (k' - 1) + 1 = n0 + k' by omega] at b1
          exact bfr_tr nd2 b1 (key (by omega))
      · exact kb _ _ (h1 k k' hk (by omega))
    · by_cases e : k = j
      · subst e
        rw [c8]
        exact fun q => by cases q
      · rw [c7 _ (by omega)]; exact h2 k (by omega)
    · rw [c2, show n0 + (j + 1) = n0 + j + 1 by omega]; simp
    · rw [show n0 + (j + 1) = n0 + j + 1 by omega, rkN_at nd2 c2, List.filter_congr (fun y hy => c5 y (by rw [c1]; exact List.mem_append_left _ hy)), c3]; omega
/-- nodes struck one behind another -/
theorem del_edx (hp : p < 256) : ∀ {m j : Nat} {G1 : Gr} {T1 : Tr}, Run p s (List.replicate m (none, i)) G1 T1 G' T' → GT G1 T1 → (m ≠ 0 → OwSl G1 p s) → G1.n = n0 + j → (∀ k k', k < k' → k' < j → bfr T1 ((G1.ev (n0 + k)).tg + 1) ((G1.ev (n0 + k')).tg + 1)) → (∀ k, k < j → (G1.ev (n0 + k)).ch = none) → (∀ j', j' + 1 = j → vis G1 ((G1.ev (n0 + j')).tg + 1) = false ∧ (G1.ev (n0 + j')).tg + 1 ∈ T1.od ∧ rkN G1 T1 ((G1.ev (n0 + j')).tg + 1) = i) → (∀ k k', k < k' → k' < j + m → bfr T' ((G'.ev (n0 + k)).tg + 1) ((G'.ev (n0 + k')).tg + 1)) ∧ (∀ k, k < j + m → (G'.ev (n0 + k)).ch = none)
  | 0, j, G1, T1, h, hg, hs, hn, h1, h2, h3 => by
    obtain ⟨rfl, rfl⟩ := h
    exact ⟨h1, h2⟩
  | m + 1, j, G1, T1, h, hg, hs, hn, h1, h2, h3 => by
    rw [List.replicate_succ] at h
    obtain ⟨G2, T2, a1, a2⟩ := h
    have hs := hs (Nat.succ_ne_zero m)
    obtain ⟨rfl, U, V, x, d1, d2, d3, d4, d5, d6, d7⟩ := a1.delA hg hs hp
    obtain ⟨n1, n2, n3, n4⟩ := a1.nx hs
    have nd := hg.2.2.1.2.1
    have hx : x ∈ T2.od := by rw [d1]; simp
    rw [hn] at d6 d7
    have ev : ∀ k, k < j → G2.ev (n0 + k) = G1.ev (n0 + k) := fun k hk => d5 _ (by omega)
    have key : ∀ j', j' + 1 = j → bfr T2 ((G1.ev (n0 + j')).tg + 1) x := fun j' hj => by
      obtain ⟨v1, v2, v3⟩ := h3 j' hj
      rcases bfr_or nd v2 hx (fun e => by rw [e, d2] at v1; cases v1) with w | w
      · exact w
      · have := rkN_lt (G := G1) nd w d2
        rw [v3, rkN_at nd d1, d3] at this
        omega
    have r := del_edx hp (j := j + 1) a2 n4 (fun _ => n3) (by omega) (fun k k' hk hk' => ?_) (fun k hk => ?_) (fun j' hj' => ?_)
    · rw [show j + (m + 1) = j + 1 + m by omega]
      exact r
    · by_cases e : k' = j
      · subst e
        rw [d7, ev k hk]
        by_cases e2 : k + 1 = k'
        · exact key k e2
        · obtain ⟨j', rfl⟩ : ∃ j', k' = j' + 1 := ⟨k' - 1, by omega⟩
          exact bfr_tr nd (h1 k j' (by omega) (by omega)) (key j' rfl)
      · rw [ev k (by omega), ev k' (by omega)]
        exact h1 k k' hk (by omega)
    · by_cases e : k = j
      · subst e; exact d6
      · rw [ev k (by omega)]; exact h2 k (by omega)
    · have e : j' = j := by omega
      subst e
      rw [d7]
      refine ⟨by rw [d4 x hx, decide_eq_false (p := x ≠ x) (fun w => w rfl), Bool.and_false], hx, ?_⟩
      rw [rkN_at nd d1, ← d3]
      congr 1
      refine List.filter_congr (fun y hy => ?_)
      rw [d4 y (by rw [d1]; exact List.mem_append_left _ hy), decide_eq_true (p := y ≠ x) (fun w => ?_), Bool.and_true]
      rw [d1] at nd
      exact (List.nodup_append.1 nd).2.2 y hy x (by simp) w
theorem Run.agE : ∀ {L : List (Option Nat × Nat)} {G : Gr} {T : Tr}, Run p s L G T G' T' → (L ≠ [] → OwSl G p s) → GT G T → agE G' p = agE G p ++ List.range' G.n L.length
  | [], G, T, h, _, _ => by
    obtain ⟨rfl, rfl⟩ := h
    exact (List.append_nil _).symm
  | (oc, ix) :: L, G, T, h, hs, hg => by
    obtain ⟨G3, T3, a1, a2⟩ := h
    have hs := hs (by intro q; cases q)
    obtain ⟨n1, n2, n3, n4⟩ := a1.nx hs
    have a3 := a1
    obtain ⟨H, -, hh⟩ := a3
    rw [← hs.slt hg.1] at hh
    rw [Run.agE a2 (fun _ => n3) n4, agE_stp hg.1 hh, if_pos rfl, n1, List.append_assoc]
    rfl
/-- the calls of both sides -/
def CaL (G : Gr) (T : Tr) (n : Nat) (E : List (Nat × Nat)) (C : List (Bool × Nat × Nat)) : Prop := C.length ≤ G.n ∧ E.length = C.length ∧ ∀ (k : Nat) (e : Nat × Nat) (c : Bool × Nat × Nat), E[k]? = some e → C[k]? = some c → 1 ≤ e.2 ∧ e.1 + e.2 ≤ G.n ∧ EdX G T e.1 e.2 ∧ CaE G n e c
theorem CaL.gw {m n : Nat} {E : List (Nat × Nat)} {C : List (Bool × Nat × Nat)} (h : CaL G T n E C) (hw : Gw m G T G' T') (hg : GT G T) : CaL G' T' n E C := by
  have k := hw.keep hg
  refine ⟨by have := h.1; omega, h.2.1, fun k' e c h1 h2 => ?_⟩
  obtain ⟨a1, a2, a3, a4⟩ := h.2.2 k' e c h1 h2
  exact ⟨a1, by omega, hw.edx hg a2 a3, hw.cae hg a1 a4⟩
theorem CaL.add {n : Nat} {E : List (Nat × Nat)} {C : List (Bool × Nat × Nat)} {e : Nat × Nat} {c : Bool × Nat × Nat} (h : CaL G T n E C) (hl : C.length < G.n) (h1 : 1 ≤ e.2) (h2 : e.1 + e.2 ≤ G.n) (h3 : EdX G T e.1 e.2) (h4 : CaE G n e c) : CaL G T n (E ++ [e]) (C ++ [c]) := by
  refine ⟨by rw [List.length_append]; show C.length + 1 ≤ _; omega, by rw [List.length_append, List.length_append, h.2.1]; rfl, fun k e' c' k1 k2 => ?_⟩
  rcases Nat.lt_or_ge k E.length with w | w
  · rw [List.getElem?_append_left w] at k1
    rw [List.getElem?_append_left (by rw [← h.2.1]; exact w)] at k2
    exact h.2.2 k e' c' k1 k2
  · rw [List.getElem?_append_right w] at k1
    rw [List.getElem?_append_right (by rw [← h.2.1]; exact w), ← h.2.1] at k2
    have e0 : k - E.length = 0 := by
      cases hh : k - E.length with
      | zero => rfl
      | succ q => rw [hh] at k1; cases k1
    rw [e0] at k1 k2
    have k1 : some e = some e' := k1
    have k2 : some c = some c' := k2
    injection k1 with k1
    injection k2 with k2
    subst k1 k2
    exact ⟨h1, h2, h3, h4⟩
theorem CaL.drop {n : Nat} {E : List (Nat × Nat)} {C : List (Bool × Nat × Nat)} (h : CaL G T n E C) : CaL G T n E.dropLast C.dropLast := by
  refine ⟨by rw [List.length_dropLast]; have := h.1; omega, by rw [List.length_dropLast, List.length_dropLast, h.2.1], fun k e c k1 k2 => ?_⟩
  rw [List.getElem?_dropLast] at k1 k2
  split at k1
  · split at k2
    · exact h.2.2 k e c k1 k2
    · cases k2
  · cases k1
/-- a call that wrote -/
theorem CaL.run {n f : Nat} {E : List (Nat × Nat)} {C : List (Bool × Nat × Nat)} {b : Bool} {L : List (Option Nat × Nat)} (h : CaL G T n E C) (hg : GT G T) (hs : OwSl G n s) (h1 : 1 ≤ L.length) (hr : Run n s L G T G' T') (hx : EdX G' T' G.n L.length) (hb : b = true ↔ (G'.ev G.n).ch ≠ none) (hf : f = (agE G n).length) : CaL G' T' n (E ++ [(G.n, L.length)]) (C ++ [(b, f, L.length)]) := by
  have hw := hr.gw (fun _ => hs) hg
  have k := hw.keep hg
  have h0 := h.1
  refine (h.gw hw hg).add (by omega) h1 (by show G.n + L.length ≤ G'.n; omega) hx ⟨rfl, hb, fun j hj => ?_⟩
  have hj : j < L.length := hj
  rw [hr.agE (fun _ => hs) hg]
  show (agE G n ++ List.range' G.n L.length)[f + j]? = some (G.n + j)
  rw [hf, List.getElem?_append_right (by omega), Nat.add_sub_cancel_left, List.getElem?_range' hj, Nat.one_mul]
end EDI
