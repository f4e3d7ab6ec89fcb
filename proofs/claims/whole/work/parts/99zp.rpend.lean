/-! ===== The reference's graph: an event is added ===== -/
/-- an event that neither inserts nor deletes yet -/
def pEv (G : Gr) (s : Nat) (W : Nat → Nat) (pr : List Nat) : Ev := (s, G.cn s, W, pr, none, 0, 8192)
def pGr (G : Gr) (s : Nat) (W : Nat → Nat) (pr : List Nat) : Gr := G.push (pEv G s W pr) G.m G.ag
theorem rcp_le2 : ∀ n, rcp n ≤ 8 ∨ rcp n + 2 ≤ 2 * n
  | 0 => Or.inl (by decide)
  | n + 1 => by
    have := rcp_le2 n
    rw [rcp]
    split
    · right; omega
    · rcases this with q | q
      · exact Or.inl q
      · exact Or.inr (by omega)
section PND
variable {G : Gr} {T : Tr} {s : Nat} {W : Nat → Nat} {pr : List Nat}
theorem pGr_o {k : Nat} (hk : k < G.n) : (pGr G s W pr).ev k = G.ev k := Gr.push_old hk
theorem pGr_n : (pGr G s W pr).ev G.n = pEv G s W pr := Gr.push_new
theorem pGr_cn (t : Nat) : (pGr G s W pr).cn t = G.cn t + if s = t then 1 else 0 := Gr.push_cn
theorem pGr_evL (t : Nat) : evL (pGr G s W pr) t = evL G t ++ if s = t then [G.n] else [] := Gr.push_evL t
theorem pGr_dls {k : Nat} (hk : k < 8192) : dls (pGr G s W pr) k = dls G k := by
  unfold dls
  show (List.filter _ (List.range (G.n + 1))).reverse = _
  rw [List.range_succ, List.filter_append]
  have h1 : (List.range G.n).filter (fun j => decide (((pGr G s W pr).ev j).ch = none ∧ ((pGr G s W pr).ev j).tg = k)) = (List.range G.n).filter (fun j => decide ((G.ev j).ch = none ∧ (G.ev j).tg = k)) := List.filter_congr (fun j hj => by
    rw [pGr_o (List.mem_range.1 hj)])
  have h2 : [G.n].filter (fun j => decide (((pGr G s W pr).ev j).ch = none ∧ ((pGr G s W pr).ev j).tg = k)) = [] := by
    rw [List.filter_cons_of_neg]
    · rfl
    · rw [decide_eq_true_eq, pGr_n]
      intro z
      have : 8192 = k := z.2
      omega
  rw [h1, h2, List.append_nil]
theorem RGm.pnd {fi fi' : Nat → Int32} {fe fe' : Nat → Nat → Int32} {fz fz' : Nat → Nat} (hm : ∀ j, RGm fi fe fz G T j) (hs : s < G.m) (hn : G.n < 8192) (hok : (pGr G s W pr).ok) (hT : T.fl (G.n + 1) = none ∧ T.fr (G.n + 1) = none) (hD : dls G G.n = [])
    (c0 : fi' 0 = nI (G.n + 1)) (ck : ∀ k, k ≠ 0 → fi' k = fi k)
    (q4 : fe' 4 = upd (fe 4) s (nI (G.cn s + 1))) (q6 : fe' 6 = upd (fe 6) G.n (nI s)) (q7 : fe' 7 = upd (fe 7) G.n (nI (G.cn s)))
    (q8a : ∀ j, j < 16 * G.n → fe' 8 j = fe 8 j) (q8b : ∀ t, t < 16 → fe' 8 (16 * G.n + t) = nI (W t))
    (q13 : fe' 13 = upd (fe 13) G.n (-1)) (q14 : fe' 14 = upd (fe 14) G.n (-1)) (q15 : fe' 15 = upd (fe 15) G.n (-1)) (q20 : fe' 20 = upd (fe 20) G.n (-1))
    (qa : ∀ j, j < G.cn s → fe' (100 + s) j = fe (100 + s) j) (qb : fe' (100 + s) (G.cn s) = nI G.n) (qc : ∀ t, t < 16 → t ≠ s → fe' (100 + t) = fe (100 + t))
    (qo : ∀ k, k = 3 ∨ k = 9 ∨ k = 10 ∨ k = 11 ∨ k = 18 ∨ k = 19 ∨ k = 21 → fe' k = fe k)
    (z1 : fz' s = rcp (G.cn s + 1)) (z2 : ∀ t, t < 16 → t ≠ s → fz' t = fz t) : ∀ j, RGm fi' fe' fz' (pGr G s W pr) T j := by
  have hmm : G.m ≤ 16 := (hm 11).1.hm
  have e3 := qo 3 (by decide)
  have e9 := qo 9 (by decide)
  have e10 := qo 10 (by decide)
  have e11 := qo 11 (by decide)
  have e18 := qo 18 (by decide)
  have e19 := qo 19 (by decide)
  have e21 := qo 21 (by decide)
  have cnt : ∀ t, t < 16 → fe' 4 t = nI ((pGr G s W pr).cn t) := fun t ht => by
    rw [q4, upd, pGr_cn]
    by_cases c : t = s
    · rw [if_pos c, if_pos c.symm, c]
    · rw [if_neg c, if_neg (fun z => c z.symm)]
      exact (hm 12 t ht).1
  have siz : ∀ t, t < 16 → fz' t = rcp ((pGr G s W pr).cn t) := fun t ht => by
    rw [pGr_cn]
    by_cases c : t = s
    · rw [if_pos c.symm, c, z1]
    · rw [if_neg (fun z => c z.symm), z2 t ht c]
      exact (hm 12 t ht).2
  intro j
  match j with
  | 0 => trivial
  | 1 => trivial
  | 2 => exact ⟨c0, (ck 1 (by decide)).trans (hm 2).2.1, (ck 2 (by decide)).trans (hm 2).2.2⟩
  | 3 =>
    intro t ht
    have ht : t < G.m := ht
    rw [e3]
    exact ⟨(hm 3 t ht).1, cnt t (by omega)⟩
  | 4 =>
    intro t ht
    have h1 := rcp_ge ((pGr G s W pr).cn t)
    have h2 := rcp_le ((pGr G s W pr).cn t)
    have h3 := cn_le hok t
    refine ⟨by rw [siz t ht]; omega, ?_, fun j hj => ?_⟩
    · rw [siz t ht]
      rcases rcp_le2 ((pGr G s W pr).cn t) with q | q <;> omega
    · rw [pGr_evL, List.getD_eq_getElem?_getD]
      rw [pGr_cn] at hj
      by_cases c : s = t
      · subst c
        rw [if_pos rfl] at hj
        rw [if_pos rfl, List.getElem?_append, evL_len]
        by_cases w : j < G.cn s
        · rw [if_pos w, qa j w, ← List.getD_eq_getElem?_getD]
          exact (hm 4 s ht).2.2 j w
        · rw [if_neg w, show j = G.cn s by omega, Nat.sub_self, qb]; rfl
      · rw [if_neg c] at hj
        rw [if_neg c, List.append_nil, qc t ht (fun z => c z.symm), ← List.getD_eq_getElem?_getD]
        exact (hm 4 t ht).2.2 j hj
  | 5 =>
    intro k hk
    have hk : k < G.n + 1 := hk
    rw [q6, q7, e10, upd, upd]
    by_cases c : k = G.n
    · subst c
      rw [if_pos rfl, if_pos rfl, pGr_n]
      exact ⟨rfl, rfl, q8b, fun z => z.elim (fun z => absurd rfl z) (fun z => absurd z (Nat.lt_irrefl _))⟩
    · obtain ⟨d1, d2, d3, d4⟩ := hm 5 k (by omega)
      rw [if_neg c, if_neg c, pGr_o (by omega)]
      exact ⟨d1, d2, fun t ht => by rw [q8a _ (by omega)]; exact d3 t ht, d4⟩
  | 6 =>
    intro k hk
    have hk : k < G.n + 1 := hk
    rw [e9, e11, e18]
    by_cases c : k = G.n
    · subst c
      rw [pGr_n]
      exact ⟨fun c z => (by cases z), fun _ z => absurd z (Nat.lt_irrefl _)⟩
    · rw [pGr_o (by omega)]
      exact hm 6 k (by omega)
  | 7 =>
    intro k hk
    rw [e21]; exact hm 7 k hk
  | 8 =>
    refine ⟨fun x hx => ?_, fun k hk => ?_⟩
    · obtain ⟨k, rfl, hk, -⟩ := (hm 11).2.2 x hx
      rw [q13, upd, if_neg (show k + 1 - 1 ≠ G.n by omega)]
      exact (hm 8).1 _ hx
    · have hk : k < G.n + 1 := hk
      rw [q14, q15, upd, upd]
      by_cases c : k = G.n
      · subst c
        rw [if_pos rfl, if_pos rfl, hT.1, hT.2]
        exact ⟨rfl, rfl⟩
      · rw [if_neg c, if_neg c]
        exact (hm 8).2 k (by omega)
  | 9 => exact (ck 17 (by decide)).trans (hm 9)
  | 10 =>
    intro k hk
    have hk : k < G.n + 1 := hk
    rw [pGr_dls (by omega), e19, q20, upd]
    by_cases c : k = G.n
    · subst c
      rw [if_pos rfl, hD]
      exact ⟨rfl, trivial⟩
    · rw [if_neg c]
      exact hm 10 k (by omega)
  | 11 =>
    refine ⟨hok, (hm 11).2.1, fun x hx => ?_⟩
    obtain ⟨k, a, b, c⟩ := (hm 11).2.2 x hx
    refine ⟨k, a, Nat.lt_succ_of_lt b, ?_⟩
    rw [pGr_o b]; exact c
  | 12 => exact fun t ht => ⟨cnt t ht, siz t ht⟩
  | n + 13 => trivial
end PND
