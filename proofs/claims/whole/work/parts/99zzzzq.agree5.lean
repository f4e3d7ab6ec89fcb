/-! ===== Both sides agree: the calls that only read ===== -/
theorem nI_ij {a b : Nat} {x : Int32} (h1 : x = nI a) (h2 : x = nI b) (ha : a < 2147483648) (hb : b < 2147483648) : a = b := (nI_eq ha hb).1 (h1.symm.trans h2)
theorem np_no {m n : Nat} {x : Int32} (h : np m x) (hn : n < m) (e : x = nI n) : False := h n hn e
theorem TxN.uq {G : Gr} {T : Tr} {j k k' : Nat} (h : TxN G T j k) (h' : TxN G T j k') : k = k' := by
  obtain ⟨U, V, a1, a2, a3⟩ := h
  obtain ⟨U', V', b1, b2, b3⟩ := h'
  have := flt_at a2 b2 (a1.symm.trans b1) (a3.trans b3.symm)
  omega
theorem TxN.lt {G : Gr} {T : Tr} {j k : Nat} (h : TxN G T j k) : j < visN G T := by
  obtain ⟨U, V, a1, a2, a3⟩ := h
  rw [visN, a1, List.filter_append, List.length_append, List.filter_cons_of_pos a2, List.length_cons]
  omega
/-- bounds of an object's numbers -/
def BdQ (Q : Ab) : Prop := (∀ n, n < 4 → (Q.G n).ok ∧ visN (Q.G n) (Q.T n) ≤ 8192) ∧ Q.tp.length ≤ 32768 ∧ (∀ k, k < 8 → (Q.sl k).length ≤ 32768) ∧ Q.vw.length ≤ 8192 ∧ Q.hu.length ≤ 32768
theorem MD.bd {S : MM} {F : Nat → Nat × Nat} {t : Nat} {z : Nat → Nat} {Y : Nat → Nat → Nat} {R : Rb} {kz : Nat → Nat} (h : MD S F t z Y R kz) : BdQ R.Q := by
  refine ⟨fun n hn => ?_, (h 3).2.1, fun k hk => ?_, (h 6).2.1, ?_⟩
  · have g := (h 2 n hn).2.1
    have h1 := g.odl
    have h2 := g.nm
    have h3 : visN (R.Q.G n) (R.Q.T n) ≤ (R.Q.T n).od.length := List.length_filter_le _ _
    exact ⟨g.ok, by omega⟩
  · rcases h 4 k hk with ⟨a, -⟩ | ⟨-, -, -, -, -, -, a, -⟩
    · rw [a]; exact Nat.zero_le _
    · exact a
  · have := (h 7).2.1
    have := (h 7).2.2.2.1
    omega
section AG
variable {Q : Ab} {p x y s a b w v v' : Int32} {c th : Nat}
theorem ag_len (hc : (c = 0 ∧ ∃ n, n < 4 ∧ p = nI n ∧ v = nI (visN (Q.G n) (Q.T n))) ∨ (c = 1 ∧ np 4 p)) (hr : (th = 0 ∧ ∃ n, n < 4 ∧ p = nI n ∧ v' = nI (visN (Q.G n) (Q.T n))) ∨ (th = 1 ∧ np 4 p ∧ v' = 0)) : th = c ∧ (c = 0 → v' = v) := by
  rcases hc with ⟨rfl, n, h1, h2, h3⟩ | ⟨rfl, h1⟩ <;> rcases hr with ⟨rfl, n', g1, g2, g3⟩ | ⟨rfl, g1, g2⟩
  · have := nI_ij h2 g2 (by omega) (by omega)
    subst this
    exact ⟨rfl, fun _ => g3.trans h3.symm⟩
  · exact (np_no g1 h1 h2).elim
  · exact (np_no h1 g1 g2).elim
  · exact ⟨rfl, fun q => by cases q⟩
theorem npx_no (hB : BdQ Q) {n j k : Nat} (hn : n < 4) (hp : p = nI n) (hx : x = nI j) (ht : TxN (Q.G n) (Q.T n) j k) (h : npx Q p x) : False := by
  rcases h with h | ⟨n', h1, h2, h3⟩
  · exact np_no h hn hp
  · have := nI_ij hp h2 (by omega) (by omega)
    subst this
    exact np_no h3 ht.lt hx
theorem ag_tx {α : Type} {f : Gr → Nat → α} {v v' z0 : α} (hB : BdQ Q) (hc : (c = 0 ∧ ∃ n j k, n < 4 ∧ p = nI n ∧ x = nI j ∧ TxN (Q.G n) (Q.T n) j k ∧ v = f (Q.G n) k) ∨ (c = 1 ∧ npx Q p x)) (hr : (th = 0 ∧ ∃ n j k, n < 4 ∧ p = nI n ∧ x = nI j ∧ TxN (Q.G n) (Q.T n) j k ∧ v' = f (Q.G n) k) ∨ (th = 1 ∧ npx Q p x ∧ v' = z0)) : th = c ∧ (c = 0 → v' = v) := by
  rcases hc with ⟨rfl, n, j, k, h1, h2, h3, h4, h5⟩ | ⟨rfl, h1⟩ <;> rcases hr with ⟨rfl, n', j', k', g1, g2, g3, g4, g5⟩ | ⟨rfl, g1, g2⟩
  · have := nI_ij h2 g2 (by omega) (by omega)
    subst this
    have b := (hB.1 n h1).2
    have t1 := h4.lt
    have t2 := g4.lt
    have := nI_ij h3 g3 (by omega) (by omega)
    subst this
    have := h4.uq g4
    subst this
    exact ⟨rfl, fun _ => g5.trans h5.symm⟩
  · exact (npx_no hB h1 h2 h3 h4 g1).elim
  · exact (npx_no hB g1 g2 g3 g4 h1).elim
  · exact ⟨rfl, fun q => by cases q⟩
theorem evA_uq {G : Gr} (h : evA G x v) (h' : evA G x v') : v' = v := by
  rcases h with ⟨e, h⟩ | ⟨a, a1, a2, a3⟩ <;> rcases h' with ⟨e', h'⟩ | ⟨a', b1, b2, b3⟩
  · exact h'.trans h.symm
  · rw [e] at b2
    exact absurd b2 (by
      intro q
      have : ¬ (nI a' < 0) := nI_pos (by omega)
      rw [← q] at this
      exact this (by decide))
  · rw [e'] at a2
    exact absurd a2 (by
      intro q
      have : ¬ (nI a < 0) := nI_pos (by omega)
      rw [← q] at this
      exact this (by decide))
  · have := nI_ij a2 b2 (by omega) (by omega)
    subst this
    exact b3.trans a3.symm
theorem evA_no {G : Gr} (h : evA G x v) (h' : x ≠ -1 ∧ np 256 x) : False := by
  rcases h with ⟨e, -⟩ | ⟨a, a1, a2, -⟩
  · exact h'.1 e
  · exact np_no h'.2 a1 a2
theorem ag_ev (hc : (c = 0 ∧ ∃ n, n < 4 ∧ p = nI n ∧ evA (Q.G n) x v) ∨ (c = 1 ∧ (np 4 p ∨ (x ≠ -1 ∧ np 256 x)))) (hr : (th = 0 ∧ ∃ n, n < 4 ∧ p = nI n ∧ evA (Q.G n) x v') ∨ (th = 1 ∧ (np 4 p ∨ (x ≠ -1 ∧ np 256 x)) ∧ v' = 0)) : th = c ∧ (c = 0 → v' = v) := by
  rcases hc with ⟨rfl, n, h1, h2, h3⟩ | ⟨rfl, h1⟩ <;> rcases hr with ⟨rfl, n', g1, g2, g3⟩ | ⟨rfl, g1, g2⟩
  · have := nI_ij h2 g2 (by omega) (by omega)
    subst this
    exact ⟨rfl, fun _ => evA_uq h3 g3⟩
  · rcases g1 with g1 | g1
    · exact (np_no g1 h1 h2).elim
    · exact (evA_no h3 g1).elim
  · rcases h1 with h1 | h1
    · exact (np_no h1 g1 g2).elim
    · exact (evA_no g3 h1).elim
  · exact ⟨rfl, fun q => by cases q⟩
theorem ag_vw (hB : BdQ Q) (hc : (c = 0 ∧ ∃ n, n < Q.vw.length ∧ x = nI n ∧ v = Q.vw.getD n 0) ∨ (c = 1 ∧ np Q.vw.length x)) (hr : (th = 0 ∧ ∃ j, j < Q.vw.length ∧ x = nI j ∧ v' = Q.vw.getD j 0) ∨ (th = 1 ∧ np Q.vw.length x ∧ v' = 0)) : th = c ∧ (c = 0 → v' = v) := by
  have b := hB.2.2.2.1
  rcases hc with ⟨rfl, n, h1, h2, h3⟩ | ⟨rfl, h1⟩ <;> rcases hr with ⟨rfl, n', g1, g2, g3⟩ | ⟨rfl, g1, g2⟩
  · have := nI_ij h2 g2 (by omega) (by omega)
    subst this
    exact ⟨rfl, fun _ => g3.trans h3.symm⟩
  · exact (np_no g1 h1 h2).elim
  · exact (np_no h1 g1 g2).elim
  · exact ⟨rfl, fun q => by cases q⟩
theorem ag_hu (hB : BdQ Q) (hc : (c = 0 ∧ ∃ i j, i < Q.hu.length ∧ x = nI i ∧ j < 4 ∧ w = nI j ∧ v = nI (huV (Q.hu.getD i (0, 0, 0, 0)) j)) ∨ (c = 1 ∧ np 4 w) ∨ (c = 2 ∧ ¬ np 4 w ∧ np Q.hu.length x)) (hr : (th = 0 ∧ ∃ i j, i < Q.hu.length ∧ x = nI i ∧ j < 4 ∧ w = nI j ∧ v' = nI (huV (Q.hu.getD i (0, 0, 0, 0)) j)) ∨ (th = 1 ∧ np 4 w ∧ v' = 0) ∨ (th = 2 ∧ (¬ np 4 w ∧ np Q.hu.length x) ∧ v' = 0)) : th = c ∧ (c = 0 → v' = v) := by
  have b := hB.2.2.2.2
  rcases hc with ⟨rfl, i, j, h1, h2, h3, h4, h5⟩ | ⟨rfl, h1⟩ | ⟨rfl, h1, h2⟩ <;> rcases hr with ⟨rfl, i', j', g1, g2, g3, g4, g5⟩ | ⟨rfl, g1, g2⟩ | ⟨rfl, g1, g2⟩
  · have := nI_ij h2 g2 (by omega) (by omega)
    subst this
    have := nI_ij h4 g4 (by omega) (by omega)
    subst this
    exact ⟨rfl, fun _ => g5.trans h5.symm⟩
  · exact (np_no g1 h3 h4).elim
  · exact (np_no g1.2 h1 h2).elim
  · exact (np_no h1 g3 g4).elim
  · exact ⟨rfl, fun q => by cases q⟩
  · exact absurd h1 g1.1
  · exact (np_no h2 g1 g2).elim
  · exact absurd g1 h1
  · exact ⟨rfl, fun q => by cases q⟩
theorem ag_cr (hc : (c = 0 ∧ ∃ n, n < 4 ∧ p = nI n ∧ v = nI (crN (Q.G n) (Q.G n).n)) ∨ (c = 1 ∧ np 4 p)) (hr : (th = 0 ∧ ∃ n, n < 4 ∧ p = nI n ∧ v' = nI (crN (Q.G n) (Q.G n).n)) ∨ (th = 1 ∧ np 4 p ∧ v' = 0)) : th = c ∧ (c = 0 → v' = v) := by
  rcases hc with ⟨rfl, n, h1, h2, h3⟩ | ⟨rfl, h1⟩ <;> rcases hr with ⟨rfl, n', g1, g2, g3⟩ | ⟨rfl, g1, g2⟩
  · have := nI_ij h2 g2 (by omega) (by omega)
    subst this
    exact ⟨rfl, fun _ => g3.trans h3.symm⟩
  · exact (np_no g1 h1 h2).elim
  · exact (np_no h1 g1 g2).elim
  · exact ⟨rfl, fun q => by cases q⟩
theorem ag_pl (hc : (c = 0 ∧ ∃ i n, i < 8 ∧ a = nI i ∧ Q.ap i = some n ∧ v = nI (cfG (Q.G n) (Q.an i) (Q.T n).od)) ∨ (c = 1 ∧ np 8 a) ∨ (c = 2 ∧ ∃ i, i < 8 ∧ a = nI i ∧ Q.ap i = none)) (hr : (th = 0 ∧ ∃ i n, i < 8 ∧ a = nI i ∧ Q.ap i = some n ∧ v' = nI (cfG (Q.G n) (Q.an i) (Q.T n).od)) ∨ (th = 1 ∧ np 8 a ∧ v' = 0) ∨ (th = 2 ∧ (∃ i, i < 8 ∧ a = nI i ∧ Q.ap i = none) ∧ v' = 0)) : th = c ∧ (c = 0 → v' = v) := by
  rcases hc with ⟨rfl, i, n, h1, h2, h3, h4⟩ | ⟨rfl, h1⟩ | ⟨rfl, i, h1, h2, h3⟩ <;> rcases hr with ⟨rfl, i', n', g1, g2, g3, g4⟩ | ⟨rfl, g1, g2⟩ | ⟨rfl, ⟨i', g1, g2, g3⟩, g4⟩
  · have := nI_ij h2 g2 (by omega) (by omega)
    subst this
    rw [h3] at g3
    cases g3
    exact ⟨rfl, fun _ => g4.trans h4.symm⟩
  · exact (np_no g1 h1 h2).elim
  · have := nI_ij h2 g2 (by omega) (by omega)
    subst this
    rw [h3] at g3; cases g3
  · exact (np_no h1 g1 g2).elim
  · exact ⟨rfl, fun q => by cases q⟩
  · exact (np_no h1 g1 g2).elim
  · have := nI_ij h2 g2 (by omega) (by omega)
    subst this
    rw [h3] at g3; cases g3
  · exact (np_no g1 h1 h2).elim
  · exact ⟨rfl, fun q => by cases q⟩
theorem ag_hd (hB : BdQ Q) {v v' : Int64} (hc : (c = 0 ∧ ∃ n H j, n < 4 ∧ p = nI n ∧ HdS (Q.G n) H ∧ j < H.length ∧ x = nI j ∧ v = lN ((Q.G n).key (H.getD j 0))) ∨ (c = 1 ∧ np 4 p) ∨ (c = 2 ∧ ∃ n H, n < 4 ∧ p = nI n ∧ HdS (Q.G n) H ∧ np H.length x)) (hr : (th = 0 ∧ ∃ n H j, n < 4 ∧ p = nI n ∧ HdS (Q.G n) H ∧ j < H.length ∧ x = nI j ∧ v' = lN ((Q.G n).key (H.getD j 0))) ∨ (th = 1 ∧ np 4 p ∧ v' = 0) ∨ (th = 2 ∧ (∃ n H, n < 4 ∧ p = nI n ∧ HdS (Q.G n) H ∧ np H.length x) ∧ v' = 0)) : th = c ∧ (c = 0 → v' = v) := by
  have hl : ∀ n, n < 4 → ∀ H, HdS (Q.G n) H → H.length ≤ 8192 := fun n hn H hH => by
    have hnd : H.Nodup := hH.2.imp (fun hlt e => by rw [e] at hlt; exact Nat.lt_irrefl _ hlt)
    exact Nat.le_trans (len_n (n := (Q.G n).n) hnd (fun x hx => ((hH.1 x).1 hx).1)) (hB.1 n hn).1.hn
  rcases hc with ⟨rfl, n, H, j, h1, h2, h3, h4, h5, h6⟩ | ⟨rfl, h1⟩ | ⟨rfl, n, H, h1, h2, h3, h4⟩ <;> rcases hr with ⟨rfl, n', H', j', g1, g2, g3, g4, g5, g6⟩ | ⟨rfl, g1, g2⟩ | ⟨rfl, ⟨n', H', g1, g2, g3, g4⟩, g5⟩
  · have := nI_ij h2 g2 (by omega) (by omega)
    subst this
    have := h3.uq g3
    subst this
    have := hl n h1 H h3
    have := nI_ij h5 g5 (by omega) (by omega)
    subst this
    exact ⟨rfl, fun _ => g6.trans h6.symm⟩
  · exact (np_no g1 h1 h2).elim
  · have := nI_ij h2 g2 (by omega) (by omega)
    subst this
    have := h3.uq g3
    subst this
    exact (np_no g4 h4 h5).elim
  · exact (np_no h1 g1 g2).elim
  · exact ⟨rfl, fun q => by cases q⟩
  · exact (np_no h1 g1 g2).elim
  · have := nI_ij h2 g2 (by omega) (by omega)
    subst this
    have := h3.uq g3
    subst this
    exact (np_no h4 g4 g5).elim
  · exact (np_no g1 h1 h2).elim
  · exact ⟨rfl, fun q => by cases q⟩
end AG
