/-! ===== An insertion in the own text gives one character ===== -/
theorem gt_insd {G : Gr} {T T' : Tr} {W : Nat → Nat} {lt : Nat → Bool} {ix : Nat} (h : GT G T) (hV : G.Ver W) (hi : T.ins T' (ivW G W) (snW G W) lt (G.n + 1) ix) : ∃ U V, T.od = U ++ V ∧ T'.od = U ++ (G.n + 1) :: V ∧ (U.filter (snW G W)).length = ix := by
  obtain ⟨h1, h2, h3, h4, h5, h6⟩ := h
  obtain ⟨A, B, rg, i1, i2, i3, i4, i5, i6⟩ := id hi
  have nin : G.n + 1 ∉ T.od := fun q => by
    obtain ⟨k, k1, k2, -⟩ := (h4 _).1 q
    omega
  have hv : ∀ c, c ∈ T.od → ivW G W c = true → T.pr c ≠ 0 → ivW G W (T.pr c) = true := fun c hc w hp => by
    obtain ⟨k, rfl, k1, -⟩ := (h4 c).1 hc
    have hb := (h5 k hc hp).2
    rw [ivW_has] at w ⊢
    have hver := hV.2 k k1 w (G.ev (T.pr (k + 1) - 1)).sl
    simp only [Gr.bef, Gr.has, decide_eq_true_eq] at hb ⊢
    omega
  have hs : ∀ y, snW G W y = true → ivW G W y = true := fun y q => by
    simp only [snW, ivW, decide_eq_true_eq] at q ⊢
    omega
  obtain ⟨T2, P, Q1, Q2, R, t1, t2, t3, t4, t5, -⟩ := Tr.ins_ex (lt := lt) h3 nin (by omega) hv hs i1 i2 i4
  rw [i3] at t1 t5
  have := Tr.ins_uniq hi t1
  subst this
  exact ⟨P ++ Q1, Q2 ++ R, t3, t4, t5⟩
theorem StpE.visI {G G' : Gr} {T T' : Tr} {a : Nat} {P : List Nat} {oc : Option Nat} {ix s : Nat} (h : StpE G T a P oc ix s G' T') (hc : oc ≠ none) (hg : GT (eGr G s a) T) (hP : ∀ p, p ∈ P → p < G.n) : visN G' T' = visN G T + 1 := by
  obtain ⟨e, e1, e2, e3, e4, e5, e6, e7, rfl, e8, e9⟩ := h
  rcases e9 with ⟨-, -, q⟩ | ⟨q, -⟩
  · have hV : (eGr G s a).Ver e.pa := by
      rw [e3, ← eGr_jn G s a]
      exact Gr.jn_ver hg.1 (fun p hp => by rw [(eGr_n G s a).1]; exact hP p hp)
    rw [← (eGr_n G s a).1] at q
    obtain ⟨U, V, u1, u2, -⟩ := gt_insd hg hV q
    rw [hg.vis_ins (by rw [e5]; exact hc) u1 u2, visN, visN, eGr_vis]
  · exact absurd q hc
