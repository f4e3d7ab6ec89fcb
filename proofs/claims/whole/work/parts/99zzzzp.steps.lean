/-! ===== Steps: one way only, and what they keep ===== -/
theorem HdS.uq {G : Gr} {H H' : List Nat} (h : HdS G H) (h' : HdS G H') : H = H' := srt_uniq (f := G.key) h.2 h'.2 (fun x => (h.1 x).trans (h'.1 x).symm)
section STP
variable {G G' G1 G2 : Gr} {T T' T1 T2 : Tr} {p s ix a : Nat} {oc : Option Nat} {P : List Nat}
theorem OwS.uq (h1 : OwS G T p s oc ix G1 T1) (h2 : OwS G T p s oc ix G2 T2) : G1 = G2 ∧ T1 = T2 := by
  obtain ⟨H, a1, a2⟩ := h1
  obtain ⟨H', b1, b2⟩ := h2
  have := a1.uq b1
  subst this
  exact a2.uniq b2
theorem Run.uq : ∀ {L : List (Option Nat × Nat)} {G : Gr} {T : Tr}, Run p s L G T G1 T1 → Run p s L G T G2 T2 → G1 = G2 ∧ T1 = T2
  | [], G, T, h1, h2 => ⟨h1.1.trans h2.1.symm, h1.2.trans h2.2.symm⟩
  | (oc, ix) :: L, G, T, h1, h2 => by
    obtain ⟨G3, T3, a1, a2⟩ := h1
    obtain ⟨G4, T4, b1, b2⟩ := h2
    obtain ⟨rfl, rfl⟩ := a1.uq b1
    exact Run.uq a2 b2
theorem RuR.uq {b : Bool} : ∀ {L : List Nat} {G : Gr} {T : Tr}, RuR p s b L G T G1 T1 → RuR p s b L G T G2 T2 → G1 = G2 ∧ T1 = T2
  | [], G, T, h1, h2 => ⟨h1.1.trans h2.1.symm, h1.2.trans h2.2.symm⟩
  | x :: L, G, T, h1, h2 => by
    obtain ⟨G3, T3, a1, a2⟩ := h1
    obtain ⟨G4, T4, b1, b2⟩ := h2
    obtain ⟨rfl, rfl⟩ := a1.uq b1
    exact RuR.uq a2 b2
theorem eGr_cnt (G : Gr) (s a : Nat) (k t : Nat) : (eGr G s a).cnt k t = G.cnt k t := Gr.cnt_cg (fun i => by rw [(eGr_n G s a).2]) k t
theorem StpE.cntk (h : StpE G T a P oc ix s G' T') {k : Nat} (hk : k ≤ G.n) : G'.cnt k = G.cnt k := by
  obtain ⟨e, e1, e2, e3, e4, e5, e6, e7, rfl, e8, -⟩ := h
  funext t
  rw [Gr.push_cnt (by rw [(eGr_n G s a).1]; exact hk), eGr_cnt]
theorem StpE.ag3 (h : StpE G T a P oc ix s G' T') (hs : s < (eGr G s a).m) (h3 : G.AG3) : G'.AG3 := by
  obtain ⟨e, e1, e2, e3, e4, e5, e6, e7, rfl, e8, -⟩ := h
  intro t ht
  rw [Gr.push_cn, eGr_cn, e1]
  have ht : t < (eGr G s a).m := ht
  by_cases c : s = t
  · rw [if_pos c]; omega
  · have : t < G.m := by
      unfold eGr at ht hs
      split at ht
      · exact ht
      · next q =>
        rw [if_neg q] at hs
        have ht : t < G.m + 1 := ht
        have hs : s < G.m + 1 := hs
        omega
    have := h3 t this
    omega
theorem OwS.ag3 (h : OwS G T p s oc ix G' T') (hs : OwSl G p s) (h3 : G.AG3) : G'.AG3 := by
  obtain ⟨H, -, h⟩ := h
  exact h.ag3 hs.eg.1 h3
theorem OwS.cntk (h : OwS G T p s oc ix G' T') {k : Nat} (hk : k ≤ G.n) : G'.cnt k = G.cnt k := by
  obtain ⟨H, -, h⟩ := h
  exact h.cntk hk
theorem Run.inv : ∀ {L : List (Option Nat × Nat)} {G : Gr} {T : Tr}, Run p s L G T G1 T1 → (L ≠ [] → OwSl G p s) → GT G T → G.AG3 → GT G1 T1 ∧ G1.AG3 ∧ G1.n = G.n + L.length ∧ ∀ k, k ≤ G.n → G1.cnt k = G.cnt k
  | [], G, T, h, _, hg, h3 => by
    obtain ⟨rfl, rfl⟩ := h
    exact ⟨hg, h3, rfl, fun _ _ => rfl⟩
  | (oc, ix) :: L, G, T, h, hs, hg, h3 => by
    obtain ⟨G3, T3, a1, a2⟩ := h
    have hs := hs (by intro q; cases q)
    obtain ⟨n1, n2, n3, n4⟩ := a1.nx hs
    obtain ⟨r1, r2, r3, r4⟩ := Run.inv a2 (fun _ => n3) n4 (a1.ag3 hs h3)
    exact ⟨r1, r2, by rw [List.length_cons]; omega, fun k hk => (r4 k (by omega)).trans (a1.cntk hk)⟩
theorem RuR.inv {b : Bool} : ∀ {L : List Nat} {G : Gr} {T : Tr}, RuR p s b L G T G1 T1 → (L ≠ [] → OwSl G p s) → GT G T → G.AG3 → GT G1 T1 ∧ G1.AG3 ∧ G1.n = G.n + L.length ∧ ∀ k, k ≤ G.n → G1.cnt k = G.cnt k
  | [], G, T, h, _, hg, h3 => by
    obtain ⟨rfl, rfl⟩ := h
    exact ⟨hg, h3, rfl, fun _ _ => rfl⟩
  | x :: L, G, T, h, hs, hg, h3 => by
    obtain ⟨G3, T3, a1, a2⟩ := h
    have hs := hs (by intro q; cases q)
    obtain ⟨n1, n2, n3, n4⟩ := a1.nx hs
    obtain ⟨r1, r2, r3, r4⟩ := RuR.inv a2 (fun _ => n3) n4 (a1.ag3 hs h3)
    exact ⟨r1, r2, by rw [List.length_cons]; omega, fun k hk => (r4 k (by omega)).trans (a1.cntk hk)⟩
end STP
