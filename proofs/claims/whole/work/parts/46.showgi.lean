/-! ===== Showing a version, in terms of GI ===== -/
section SHG
variable {S S' : MM} {F : Nat → Nat × Nat} {i : Nat} {A : Nat → Nat} {X : GX} {G : Gr} {T : Tr} {H : List Nat} {W W' : Nat → Nat}
theorem F1 {F : Nat → Nat × Nat} {i b r : Nat} (h : F b = (i, r)) : (F b).1 = i := by rw [h]
theorem GI.fne (_ : GI S F i A X G T H W) {a b r s : Nat} (h1 : F a = (i, r)) (h2 : F b = (i, s)) (h : r ≠ s) : a ≠ b := fun e => by
  subst e
  rw [h1] at h2
  injection h2 with q1 q2
  exact h q2
theorem GI.bfr (h : GI S F i A X G T H W) {k : Nat} (hk : k < G.n) : X.bf k ≠ A 8 ∧ X.bf k ≠ A 9 ∧ X.bf k ≠ A 10 :=
  ⟨h.fne (h 11 k hk).2.2 (h 7).2.1 (by decide), h.fne (h 11 k hk).2.2 (h 8).2.1 (by decide), h.fne (h 11 k hk).2.2 (h 9).2.1 (by decide)⟩
theorem GI.shp (h : GI S F i A X G T H W) : ShP S X G (A 0) (A 1) (A 2) (A 3) (capF G.n) (A 8) (A 9) W :=
  ⟨(h 0).1, (h 1).1, (h 2).1, (h 2).2.2.2, (h 7).1, (h 7).2.2, h.ev, h.gt.2.1, (h 8).1, (h 8).2.2.1, (h 8).2.2.2, h.fne (h 7).2.1 (h 8).2.1 (by decide), fun _ hk => ⟨(h.bfr hk).1, (h.bfr hk).2.1⟩⟩
theorem ChP.cg {rt : Nat} {O : List Nat} (h : ChP S rt O) (h1 : ∀ b, isO S 5 b → isO S' 5 b) (h2 : ∀ b, mR S' 511 b = mR S 511 b) (h3 : ∀ b, mR S' 512 b = mR S 512 b) : ChP S' rt O :=
  ⟨h1 _ h.1, fun y hy => h1 y (h.2.1 y hy), fun U V e => by rw [h3]; exact h.2.2.1 U V e, fun U y V e => by rw [h2]; exact h.2.2.2 U y V e⟩
/-- what stays where only what moves in a graph was written -/
theorem GI.str (h : GI S F i A X G T H W) (hk : Keep (fun b => b = A 0 ∨ b = A 8 ∨ b = A 9 ∨ b = A 10) (msk0 S) (msk0 S')) (hgI : ∀ j, j ≠ 605 → j ≠ 609 → j ≠ 611 → mI S' j (A 0) = mI S j (A 0)) (hgR : ∀ j, j ≠ 610 → mR S' j (A 0) = mR S j (A 0)) (h6 : GIf S' F i A X G T H W' 6) (h7 : WR S' (A 8) W') (h13 : GIf S' F i A X G T H W' 13) (h14 : GIf S' F i A X G T H W' 14) (h15 : GIf S' F i A X G T H W' 15) (h16 : GIf S' F i A X G T H W' 16) (h17 : GIf S' F i A X G T H W' 17) (h18 : GIf S' F i A X G T H W' 18) (h21 : GIf S' F i A X G T H W' 21) : GI S' F i A X G T H W' := by
  have nk : ∀ {b r : Nat}, F b = (i, r) → r ≠ 1 → r ≠ 8 → r ≠ 9 → r ≠ 10 → ¬ (b = A 0 ∨ b = A 8 ∨ b = A 9 ∨ b = A 10) := fun hb q1 q2 q3 q4 z => by
    rcases z with z | z | z | z
    · exact h.fne hb (h 0).2 q1 z
    · exact h.fne hb (h 7).2.1 q2 z
    · exact h.fne hb (h 8).2.1 q3 z
    · exact h.fne hb (h 9).2.1 q4 z
  have io : ∀ {k b : Nat}, isO S k b → isO S' k b := fun q => hk.isO q
  have nn : ∀ {b : Nat}, b ∈ mL S → mN S' b = mN S b := fun q => (hk.1 _ q).2.2
  intro j
  match j with
  | 0 => exact ⟨io (h 0).1, (h 0).2⟩
  | 1 => exact ⟨(hgR 600 (by decide)).trans (h 1).1, io (h 1).2.1, (h 1).2.2⟩
  | 2 => exact ⟨(hgR 601 (by decide)).trans (h 2).1, (h 2).2.1, (h 2).2.2.1, AL.msk.1 ((AL.msk.2 (h 2).2.2.2).keepc hk (nk (h 2).2.1 (by decide) (by decide) (by decide) (by decide)) (fun c => nk ((h 2).2.2.1 c) (by decide) (by decide) (by decide) (by decide)))⟩
  | 3 =>
    obtain ⟨a1, a2, a3, a4, a5, a6⟩ := h 3
    have e1 : eR S' (A 4) = eR S (A 4) := (hk.2.1 _ a2.1 (nk a3 (by decide) (by decide) (by decide) (by decide))).2.2.2.2.2
    exact ⟨(hgR 602 (by decide)).trans a1, io a2, a3, (nn a2.1).trans a4, fun s hs => by rw [e1]; exact a5 s hs, fun j hj q => by rw [e1]; exact a6 j hj q⟩
  | 4 => exact (hgI 603 (by decide) (by decide) (by decide)).trans (h 4)
  | 5 => exact ⟨(hgR 604 (by decide)).trans (h 5).1, (h 5).2.1, (h 5).2.2.1, AL.msk.1 ((AL.msk.2 (h 5).2.2.2.1).keepc hk (nk (h 5).2.1 (by decide) (by decide) (by decide) (by decide)) (fun c => nk ((h 5).2.2.1 c) (by decide) (by decide) (by decide) (by decide))), (h 5).2.2.2.2⟩
  | 6 => exact h6
  | 7 => exact ⟨(hgR 606 (by decide)).trans (h 7).1, (h 7).2.1, h7⟩
  | 8 => exact ⟨(hgR 607 (by decide)).trans (h 8).1, (h 8).2.1, io (h 8).2.2.1, (nn (h 8).2.2.1.1).trans (h 8).2.2.2⟩
  | 9 => exact ⟨(hgR 608 (by decide)).trans (h 9).1, (h 9).2.1, io (h 9).2.2.1, (nn (h 9).2.2.1.1).trans (h 9).2.2.2⟩
  | 10 => exact EvT.msk.1 ((EvT.msk.2 h.ev).keep hk (fun k q => ⟨nk (h 11 k q).1 (by omega) (by omega) (by omega) (by omega), nk (h 11 k q).2.1 (by decide) (by decide) (by decide) (by decide), nk (h 11 k q).2.2 (by decide) (by decide) (by decide) (by decide)⟩) (fun s q => nk (h 12 s q).1 (by omega) (by omega) (by omega) (by omega)))
  | 11 => exact h 11
  | 12 =>
    intro s q
    obtain ⟨a1, a2, a3, a4, a5⟩ := h 12 s q
    have ho : isO S 1 (X.aa s) := (h.ev.2.2.1 s q).1
    have e1 : mR (msk0 S') 102 (X.aa s) = mR (msk0 S) 102 (X.aa s) := (hk.2.1 _ ho.1 (nk a1 (by omega) (by omega) (by omega) (by omega))).2.1 102
    exact ⟨a1, Eq.trans e1 a2, a3, a4, AL.msk.1 ((AL.msk.2 a5).keepc hk (nk a3 (by omega) (by omega) (by omega) (by omega)) (fun c => nk (a4 c) (by omega) (by omega) (by omega) (by omega)))⟩
  | 13 => exact h13
  | 14 => exact h14
  | 15 => exact h15
  | 16 => exact h16
  | 17 => exact h17
  | 18 => exact h18
  | 19 => exact h 19
  | 20 => exact h 20
  | 21 => exact h21
  | n + 22 => exact trivial
/-- another row of counts that is not shown -/
theorem GI.row (h : GI S F i A X G T H W) {r : Nat} {f : Nat → Int32} (hr : r = A 9 ∨ r = A 10) : GI (rI S r f) F i A X G T H W := by
  have r8 : r ≠ A 8 := by
    rcases hr with z | z
    · rw [z]; exact h.fne (h 8).2.1 (h 7).2.1 (by decide)
    · rw [z]; exact h.fne (h 9).2.1 (h 7).2.1 (by decide)
  have hk : Keep (fun b => b = A 0 ∨ b = A 8 ∨ b = A 9 ∨ b = A 10) (msk0 S) (msk0 (rI S r f)) := Keep.rI (S1 := msk0 S) Keep.rf (Or.inr (Or.inr hr))
  have e8 : eI (rI S r f) (A 8) = eI S (A 8) := va_up_ne _ _ (fun e => r8 e.symm)
  have h18 : GIf (rI S r f) F i A X G T H W 18 := by
    obtain ⟨U, V, e, a1, a2⟩ := h 18
    refine ⟨U, V, e, a1, ?_⟩
    rw [seenC_cg (S' := rI S r f) (S := S) (fun _ _ => rfl)]
    exact a2
  exact h.str hk (fun _ _ _ _ => rfl) (fun _ _ => rfl) (h 6) ⟨(h 7).2.2.1, (h 7).2.2.2.1, fun s hs => by rw [e8]; exact (h 7).2.2.2.2 s hs⟩ (h 13) (h 14) (h 15) (h 16) (h 17) h18 (h 21)
theorem W_eq (h : GI S F i A X G T H W) (h2 : ∀ s, G.m ≤ s → W' s = 0) (he : ∀ s, s < 16 → W s = W' s) : W = W' := by
  funext s
  by_cases z : s < 16
  · exact he s z
  · have := h.ok.hm
    rw [h2 s (by omega), (h 21).2 s (by omega)]
theorem GI.show (h : GI S F i A X G T H W) (hs : swP S S' X G (A 0) (A 1) (A 8) (A 9) W W') (hv : G.Ver W') (hz : ∀ s, G.m ≤ s → W' s = 0) : GI S' F i A X G T H W' ∧ Keep (fun b => (F b).1 = i) S S' := by
  rcases hs with ⟨he, rfl⟩ | ⟨-, f, hf, μ, rfl, hr, h9, h11, hst, -⟩
  · have := W_eq h hz he
    subst this
    exact ⟨h, Keep.rf⟩
  · have hk1 : Keep (fun b => b = A 0 ∨ b = A 8 ∨ b = A 9 ∨ b = A 10) (msk0 S) (msk0 (rI S (A 8) f)) := Keep.rI (S1 := msk0 S) Keep.rf (Or.inr (Or.inl rfl))
    have hk := hk1.tr (hr.keep.mono (fun b _ (e : b = A 0) => Or.inl e) : Keep (fun b => b = A 0 ∨ b = A 8 ∨ b = A 9 ∨ b = A 10) (msk0 (rI S (A 8) f)) (msk0 (wI (sR (rI S (A 8) f) 610 (A 0) (some (A 1))) μ)))
    have g6 : isO S 6 (A 0) := (h 0).1
    have ad : ∀ k, k < G.n → isO S 5 (X.ad k) := fun k q => (h.ev.2.1 k q).1
    have mr : ∀ j b, j ≠ 610 → mR (wI (sR (rI S (A 8) f) 610 (A 0) (some (A 1))) μ) j b = mR S j b := fun j b q => if_neg (fun z => q z.1)
    have gI : ∀ j, j ≠ 609 → j ≠ 611 → μ j (A 0) = mI S j (A 0) := fun j q1 q2 => hr j (A 0) (fun ⟨_, k, q, e⟩ => isO_ne g6 (ad k q) (by decide) e) (fun z => z.2.elim q1 q2)
    have e8 : eI (rI S (A 8) f) (A 8) = f := va_up_self _ _ _
    have cn : ∀ s, W' s ≤ 100000 := fun s => by
      have a1 := hv.1 s
      have a2 := Gr.cnt_le (G := G) G.n s
      have a3 := h.ok.hn
      rw [Gr.cn] at a1; omega
    refine ⟨h.str hk (fun j q1 q2 q3 => gI j q2 q3) (fun j q => mr j _ q) ?_ ⟨(h 7).2.2.1, (h 7).2.2.2.1, fun s hs => ⟨by show eI (rI S (A 8) f) (A 8) s = _; rw [e8]; exact hf s hs, cn s⟩⟩ h9 hst ?_ ?_ ?_ ?_ ⟨hv, hz⟩, ?_⟩
    · exact (gI 605 (by decide) (by decide)).trans (h 6)
    · exact fun k q c => (hr 514 (X.ad k) (fun z => absurd z.1 (by decide)) (fun z => z.2.elim (by decide) (by decide))).trans (h 15 k q c)
    · intro x hx
      obtain ⟨a1, a2, a3⟩ := h 16 x hx
      exact ⟨(mr _ _ (by decide)).trans a1, (mr _ _ (by decide)).trans a2, fun q => (mr _ _ (by decide)).trans (a3 q)⟩
    · exact ChP.cg (h 17) (fun _ q => q) (fun b => mr _ _ (by decide)) (fun b => mr _ _ (by decide))
    · exact ⟨[], T.od, rfl, if_pos ⟨rfl, rfl⟩, h11⟩
    · refine ⟨fun b hb => ⟨hb, rfl, rfl⟩, fun b hb hp => ⟨fun j => ?_, fun j => ?_, fun _ => rfl, ?_, rfl, rfl⟩, rfl, rfl⟩
      · refine hr j b (fun ⟨_, k, q, e⟩ => hp ?_) (fun z => hp ?_)
        · exact F1 (e ▸ (h 11 k q).1)
        · exact F1 (z.1 ▸ (h 0).2)
      · exact if_neg (fun z => hp (F1 (z.2 ▸ (h 0).2)))
      · exact va_up_ne _ _ (fun e => hp (F1 (e ▸ (h 7).2.1)))
/-- over every event there is a head -/
theorem Gr.head_ov (h : G.ok) : ∀ t k, k + t = G.n → k < G.n → ∃ j, j < G.n ∧ (∀ l, l < G.n → G.bef j l = false) ∧ (k = j ∨ G.bef k j = true) := by
  intro t
  induction t using Nat.strongRecOn with
  | ind t ih =>
    intro k hk hn
    by_cases z : ∀ l, l < G.n → G.bef k l = false
    · exact ⟨k, hn, z, Or.inl rfl⟩
    · obtain ⟨l, hz⟩ := Classical.not_forall.1 z
      obtain ⟨hl, hb⟩ := Classical.not_imp.1 hz
      rw [Bool.not_eq_false] at hb
      have lt := Gr.bef_lt h hn hl hb
      obtain ⟨j, j1, j2, j3⟩ := ih (G.n - l) (by omega) l (by omega) hl
      refine ⟨j, j1, j2, Or.inr ?_⟩
      rcases j3 with q | q
      · rw [← q]; exact hb
      · exact Gr.bef_tr h hn hl j1 hb q
theorem HdS.jn (hd : HdS G H) (h : G.ok) : G.jn H = G.cn := by
  funext s
  refine Nat.le_antisymm (Gr.jn_cnt h (fun p hp => ((hd.1 p).1 hp).1) s) ?_
  rcases Nat.eq_zero_or_pos (G.cn s) with z | z
  · omega
  · obtain ⟨k, k1, k2, k3⟩ := Gr.at_ex h (Nat.le_refl _) (show G.cn s - 1 < G.cnt G.n s by rw [← Gr.cn]; omega)
    obtain ⟨j, j1, j2, j3⟩ := Gr.head_ov h (G.n - k) k (by omega) k1
    have h1 := (Gr.lt_full h k1 j1).2 j3
    have h2 := Gr.full_le_jn (G := G) (t := (G.ev k).sl) ((hd.1 j).2 ⟨j1, j2⟩)
    rw [k2] at h1 h2; omega
theorem Gr.cn_ver (h : G.ok) : G.Ver G.cn ∧ ∀ s, G.m ≤ s → G.cn s = 0 :=
  ⟨⟨fun _ => Nat.le_refl _, fun k hk _ t => Nat.le_trans (h.pa2 k t hk) (Gr.cnt_mono t (Nat.le_of_lt hk))⟩, fun s hs => Gr.cnt_m h (Nat.le_refl _) hs⟩
/-- the own text is shown -/
theorem GI.showAll (h : GI S F i A X G T H W) (hs : saP S S' X G (A 0) (A 1) (A 8) (A 9) W H) : GI S' F i A X G T H G.cn ∧ Keep (fun b => (F b).1 = i) S S' := by
  obtain ⟨f, -, hs⟩ := hs
  rw [(h 20 : HdS G H).jn h.ok] at hs
  obtain ⟨a, b⟩ := (h.row (Or.inl rfl)).show hs (Gr.cn_ver h.ok).1 (Gr.cn_ver h.ok).2
  refine ⟨a, Keep.tr (Keep.rI Keep.rf ?_) b⟩
  show (F (A 9)).1 = i
  rw [(h 8).2.1]
end SHG
