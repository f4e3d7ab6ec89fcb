/-! ===== A run of own events ===== -/
def OwS (G : Gr) (T : Tr) (p s : Nat) (oc : Option Nat) (ix : Nat) (G' : Gr) (T' : Tr) : Prop := ∃ H, HdS G H ∧ StpE G T p H oc ix s G' T'
def Run (p s : Nat) : List (Option Nat × Nat) → Gr → Tr → Gr → Tr → Prop
  | [], G, T, G', T' => G' = G ∧ T' = T
  | (oc, ix) :: L, G, T, G', T' => ∃ G1 T1, OwS G T p s oc ix G1 T1 ∧ Run p s L G1 T1 G' T'
theorem Run.snoc {p s : Nat} {oc : Option Nat} {ix : Nat} {G1 G2 : Gr} {T1 T2 : Tr} : ∀ {L : List (Option Nat × Nat)} {G : Gr} {T : Tr}, Run p s L G T G1 T1 → OwS G1 T1 p s oc ix G2 T2 → Run p s (L ++ [(oc, ix)]) G T G2 T2
  | [], G, T, h, h2 => by
    obtain ⟨rfl, rfl⟩ := h
    exact ⟨G2, T2, h2, rfl, rfl⟩
  | (oc0, ix0) :: L, G, T, h, h2 => by
    obtain ⟨G3, T3, a, b⟩ := h
    exact ⟨G3, T3, a, Run.snoc b h2⟩
theorem StpE.nx {G G' : Gr} {T T' : Tr} {a : Nat} {P : List Nat} {oc : Option Nat} {ix s : Nat} (h : StpE G T a P oc ix s G' T') (hs : s < (eGr G s a).m ∧ (eGr G s a).ag s = a) : G'.n = G.n + 1 ∧ G'.cn s = G.cn s + 1 ∧ s < G'.m ∧ G'.ag s = a ∧ GT G' T' := by
  obtain ⟨e, e1, e2, e3, e4, e5, e6, e7, rfl, e8, -⟩ := h
  refine ⟨by rw [Gr.push_n, (eGr_n G s a).1], by rw [Gr.push_cn, eGr_cn, e1, if_pos rfl], hs.1, hs.2, e8⟩
theorem eGr_stk (G : Gr) (s a k : Nat) : stk (eGr G s a) k = stk G k := by
  unfold stk
  rw [(eGr_n G s a).1, (eGr_n G s a).2]
theorem eGr_vis (G : Gr) (s a : Nat) : vis (eGr G s a) = vis G := by
  funext x
  rw [vis, vis, eGr_stk]
/-- a deletion in the own text takes one character -/
theorem StpE.visD {G G' : Gr} {T T' : Tr} {a : Nat} {P : List Nat} {ix s : Nat} (h : StpE G T a P none ix s G' T') (hg : GT (eGr G s a) T) (hP : G.jn P = G.cn) : visN G' T' + 1 = visN G T := by
  obtain ⟨e, e1, e2, e3, e4, e5, e6, e7, rfl, e8, e9⟩ := h
  rcases e9 with ⟨q, -⟩ | ⟨-, rfl, U, V, u1, u2, u3⟩
  · exact absurd rfl q
  · have to : e.tg + 1 ∈ T'.od := by rw [u1]; simp
    obtain ⟨k, k1, k2, -⟩ := (hg.2.2.2.1 _).1 to
    have k1 : e.tg = k := by omega
    subst k1
    have hv : vis (eGr G s a) (e.tg + 1) = true := by
      rw [← vis_sn hg.1 k2, ← u2, e3, hP, eGr_cn]
    have hn : stk (eGr G s a) e.tg = none := by
      have := of_decide_eq_true hv
      rw [Nat.add_sub_cancel] at this; exact this
    have vd := hg.vis_del e5 to (e := e)
    rw [if_pos hn] at vd
    rw [vd, visN, visN, eGr_vis]
def runC (G : Gr) (s j : Nat) : Nat := 4 * j + (if s < G.m then 0 else if j = 0 then 0 else 2) + (capC (G.n + j) - capC G.n) + (capC (G.cn s + j) - capC (G.cn s))
def runZ (G : Gr) (s j : Nat) : Nat := 70 * j + (if s < G.m then 0 else if j = 0 then 0 else 6) + (capZ (G.n + j) - capZ G.n) + (capZ (G.cn s + j) - capZ (G.cn s))
theorem capC_mono (n : Nat) : ∀ j, capC n ≤ capC (n + j)
  | 0 => Nat.le_refl _
  | j + 1 => Nat.le_trans (capC_mono n j) (Nat.le_add_right _ _)
theorem capZ_mono (n : Nat) : ∀ j, capZ n ≤ capZ (n + j)
  | 0 => Nat.le_refl _
  | j + 1 => Nat.le_trans (capZ_mono n j) (Nat.le_add_right _ _)
theorem runC_s {G G1 : Gr} {s j : Nat} (h1 : G1.n = G.n + j) (h2 : G1.cn s = G.cn s + j) (h3 : s < G1.m ∨ (j = 0 ∧ ¬ s < G.m)) (h4 : s < G.m → s < G1.m) : runC G s j + enC G1 s ≤ runC G s (j + 1) ∧ runZ G s j + enZ G1 s ≤ runZ G s (j + 1) := by
  have a1 := capC_mono G.n j
  have a2 := capC_mono (G.cn s) j
  have b1 := capZ_mono G.n j
  have b2 := capZ_mono (G.cn s) j
  have c1 : capC (G.n + (j + 1)) = capC (G.n + j) + alC (capF (G.n + j)) (G.n + j) := rfl
  have c2 : capC (G.cn s + (j + 1)) = capC (G.cn s + j) + alC (capF (G.cn s + j)) (G.cn s + j) := rfl
  have c3 : capZ (G.n + (j + 1)) = capZ (G.n + j) + alZ (capF (G.n + j)) (G.n + j) := rfl
  have c4 : capZ (G.cn s + (j + 1)) = capZ (G.cn s + j) + alZ (capF (G.cn s + j)) (G.cn s + j) := rfl
  unfold runC runZ enC enZ
  rw [h1, h2, c1, c2, c3, c4]
  by_cases q : s < G.m
  · rw [if_pos q, if_pos q, if_pos (h4 q), if_pos q, if_pos q, if_pos (h4 q)]
    omega
  · rw [if_neg q, if_neg q, if_neg q, if_neg q, if_neg (Nat.succ_ne_zero j), if_neg (Nat.succ_ne_zero j)]
    rcases h3 with w | w
    · rw [if_pos w, if_pos w]
      by_cases v : j = 0
      · rw [if_pos v, if_pos v]; omega
      · rw [if_neg v, if_neg v]; omega
    · rw [if_pos w.1, if_pos w.1]
      by_cases v : s < G1.m
      · rw [if_pos v, if_pos v]; omega
      · rw [if_neg v, if_neg v]; omega
theorem EdL.keep {P : Nat → Prop} {S S' : MM} {F F' : Nat → Nat × Nat} {jo a d c : Nat} {E : List (Nat × Nat)} {ea : Nat → Nat} (h : EdL S F jo a d c E ea) (hk : Keep P S S') (h1 : ¬ P a) (h2 : c ≠ 0 → ¬ P d) (h3 : ∀ l, l < E.length → ¬ P (ea l)) (hf : ∀ b, b ∈ mL S → F' b = F b) : EdL S' F' jo a d c E ea := by
  obtain ⟨e1, e2, e3, e4⟩ := h
  refine ⟨e1.keepc hk h1 h2, (hf a e1.1.1).trans e2, fun q => (hf d (e1.row q).1.1).trans (e3 q), fun l hl => ?_⟩
  obtain ⟨v1, v2, v3, v4⟩ := e4 l hl
  have ka := hk.2.1 _ v1.1 (h3 l hl)
  exact ⟨hk.isO v1, (hf _ v1.1).trans v2, (ka.1 400).trans v3, (ka.1 401).trans v4⟩
