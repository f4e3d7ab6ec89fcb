/-! ===== What hanging makes of the tree ===== -/
/-- the event e hangs, the finger at it; pointers aside -/
def hgR (S S' : MM) (g e ix : Nat) : Prop := mL S' = mL S ∧ mK S' = mK S ∧ mJ S' = mJ S ∧ mN S' = mN S ∧ eI S' = eI S ∧ eJ S' = eJ S ∧ eR S' = eR S ∧ mZ S' = mZ S ∧ mQ S' = mQ S ∧ (∀ j b, mI S' j b = if j = 611 ∧ b = g then nI (ix + 1) else if j = 605 ∧ b = g then mI S 605 g + 1 else if j = 609 ∧ b = g then mI S 609 g + 1 else if j = 513 ∧ b = e then 1 else mI S j b) ∧ (∀ j b, ¬ (507 < j ∧ j < 513) → mR S' j b = if j = 610 ∧ b = g then some e else mR S j b)
theorem lkS_all (S : MM) (e x : Nat) : mL (lkS S e x) = mL S ∧ mK (lkS S e x) = mK S ∧ mI (lkS S e x) = mI S ∧ mJ (lkS S e x) = mJ S ∧ mN (lkS S e x) = mN S ∧ eI (lkS S e x) = eI S ∧ eJ (lkS S e x) = eJ S ∧ eR (lkS S e x) = eR S ∧ mZ (lkS S e x) = mZ S ∧ mQ (lkS S e x) = mQ S := by
  unfold lkS
  split <;> exact ⟨rfl, rfl, rfl, rfl, rfl, rfl, rfl, rfl, rfl, rfl⟩
/-- the shape that all three ways of linking have -/
def lkT (S T : MM) (e z : Nat) (c1 x1 : Nat) (v v1 : Option Nat) : Prop := T = sR (sR (lkS S e z) 510 e v) c1 x1 v1
theorem lkT.all {S1 S T : MM} {e z c x g f t : Nat} {v v1 : Option Nat} {ix : Nat} (h : lkT S1 T e z c x v v1) (hc : 507 < c ∧ c < 513) (hS : S1 = S ∨ S1 = fgS S g f t) : hgR S (hgF S T g e ix) g e ix := by
  have key : ∀ S1 : MM, (mL S1 = mL S ∧ mK S1 = mK S ∧ mJ S1 = mJ S ∧ mN S1 = mN S ∧ eI S1 = eI S ∧ eJ S1 = eJ S ∧ eR S1 = eR S ∧ mZ S1 = mZ S ∧ mQ S1 = mQ S ∧ (∀ j b, ¬ (j = 611 ∧ b = g) → mI S1 j b = mI S j b) ∧ ∀ j b, ¬ (j = 610 ∧ b = g) → mR S1 j b = mR S j b) → lkT S1 T e z c x v v1 → hgR S (hgF S T g e ix) g e ix := by
    intro S1 ⟨a1, a2, a3, a4, a5, a6, a7, a8, a9, aI, aR⟩ h
    have h : T = sR (sR (lkS S1 e z) 510 e v) c x v1 := h
    subst h
    obtain ⟨b1, b2, b3, b4, b5, b6, b7, b8, b9, b10⟩ := lkS_all S1 e z
    refine ⟨b1.trans a1, b2.trans a2, b4.trans a3, b5.trans a4, b6.trans a5, b7.trans a6, b8.trans a7, b9.trans a8, b10.trans a9, fun j b => ?_, fun j b hj => ?_⟩
    · have e0 : mI (hgF S (sR (sR (lkS S1 e z) 510 e v) c x v1) g e ix) j b = if j = 611 ∧ b = g then nI (ix + 1) else if j = 605 ∧ b = g then mI S 605 g + 1 else if j = 609 ∧ b = g then mI S 609 g + 1 else if j = 513 ∧ b = e then 1 else mI (lkS S1 e z) j b := by
        unfold hgF
        rw [mI_sI, mI_sR, mI_sI, mI_sI, mI_sI, mI_sR, mI_sR]
      rw [e0]
      by_cases z1 : j = 611 ∧ b = g
      · rw [if_pos z1, if_pos z1]
      · rw [if_neg z1, if_neg z1, b3, aI j b z1]
    · have e0 : mR (hgF S (sR (sR (lkS S1 e z) 510 e v) c x v1) g e ix) j b = if j = 610 ∧ b = g then some e else if j = c ∧ b = x then v1 else if j = 510 ∧ b = e then v else mR (lkS S1 e z) j b := by
        unfold hgF
        rw [mR_sI, mR_sR, mR_sI, mR_sI, mR_sI, mR_sR, mR_sR]
      rw [e0]
      by_cases z1 : j = 610 ∧ b = g
      · rw [if_pos z1, if_pos z1]
      · rw [if_neg z1, if_neg z1, if_neg (fun q => hj (by omega)), if_neg (fun q => hj (by omega)), lkS_R (by omega) (by omega), aR j b z1]
  rcases hS with hS | hS
  · subst hS; exact key _ ⟨rfl, rfl, rfl, rfl, rfl, rfl, rfl, rfl, rfl, fun _ _ _ => rfl, fun _ _ _ => rfl⟩ h
  · subst hS
    refine key (fgS S g f t) ⟨rfl, rfl, rfl, rfl, rfl, rfl, rfl, rfl, rfl, fun j b q => ?_, fun j b q => ?_⟩ h
    · exact if_neg q
    · exact if_neg q
theorem hgF_R {S T : MM} {g e ix j b : Nat} (h : j ≠ 610) : mR (hgF S T g e ix) j b = mR T j b := by
  unfold hgF
  rw [mR_sI, mR_sR, if_neg (fun q => h q.1), mR_sI, mR_sI, mR_sI]
theorem hgF_O {S T : MM} {g e ix k b : Nat} (h : isO T k b) : isO (hgF S T g e ix) k b := isO_sI (isO_sR (isO_sI (isO_sI (isO_sI h))))
theorem lkS_cg {S S1 : MM} (h1 : ∀ c, mR S1 511 c = mR S 511 c) (h2 : ∀ c, mR S1 512 c = mR S 512 c) (e z : Nat) : (∀ c, mR (lkS S1 e z) 511 c = mR (lkS S e z) 511 c) ∧ ∀ c, mR (lkS S1 e z) 512 c = mR (lkS S e z) 512 c := by
  unfold lkS
  rw [h2 z]
  cases mR S 512 z with
  | none =>
    refine ⟨fun c => ?_, fun c => ?_⟩
    · dsimp only
      rw [mR_sR, mR_sR, mR_sR, mR_sR, mR_sR, mR_sR, h1 c]
    · dsimp only
      rw [mR_sR, mR_sR, mR_sR, mR_sR, mR_sR, mR_sR, h2 c]
  | some y =>
    refine ⟨fun c => ?_, fun c => ?_⟩
    · dsimp only
      rw [mR_sR, mR_sR, mR_sR, mR_sR, mR_sR, mR_sR, mR_sR, mR_sR, h1 c]
    · dsimp only
      rw [mR_sR, mR_sR, mR_sR, mR_sR, mR_sR, mR_sR, mR_sR, mR_sR, h2 c]
theorem lkS_keep {P : Nat → Prop} {S : MM} {e x : Nat} (h1 : P e) (h2 : P x) (h3 : ∀ y, mR S 512 x = some y → P y) : Keep P S (lkS S e x) := by
  unfold lkS
  split
  · rename_i y hy
    exact (((Keep.rf.sR h1).sR h1).sR (h3 y hy)).sR h2
  · exact ((Keep.rf.sR h1).sR h1).sR h2
theorem lfP.s1 {S S1 : MM} {g rt i lf : Nat} {O : List Nat} (h : lfP S S1 g rt i lf O) : S1 = S ∨ S1 = fgS S g lf i := h.elim (fun q => Or.inl q.2.2) (fun ⟨_, _, q⟩ => Or.inr q.2.2.2.2)
section HGH
variable {S S' : MM} {F : Nat → Nat × Nat} {i : Nat} {A : Nat → Nat} {X : GX} {G : Gr} {T : Tr} {H : List Nat} {W : Nat → Nat}
theorem GI.hang (h : GI S F i A X G T H W) (he : F (X.ad G.n) = (i, 100 + G.n)) (e5 : isO S 5 (X.ad G.n)) (efl : mR S 508 (X.ad G.n) = none) (efr : mR S 509 (X.ad G.n) = none) {lt : Nat → Bool} (hl : ∀ x ∈ T.od, ltA S (X.ad G.n) (xa A X x) = lt x) {ix : Nat} (hg : hgP S S' (A 0) (A 1) (X.ad G.n) ix T.od.length (T.od.map (xa A X))) :
    ∃ T', T.ins T' (ivW G W) (snW G W) lt (G.n + 1) ix ∧ hgR S S' (A 0) (X.ad G.n) ix ∧ (∀ x, x = 0 ∨ x ∈ T'.od → mR S' 508 (xa A X x) = (T'.fl x).map (xa A X) ∧ mR S' 509 (xa A X x) = (T'.fr x).map (xa A X) ∧ (x ≠ 0 → mR S' 510 (xa A X x) = (T'.sb x).map (xa A X))) ∧ ChP S' (A 1) (T'.od.map (xa A X)) ∧ (∃ U V, T.od = U ++ V ∧ T'.od = U ++ (G.n + 1) :: V ∧ (U.filter (snW G W)).length = ix) ∧ (∀ k, k ≠ G.n + 1 → T'.pr k = T.pr k) ∧ Keep (fun b => (F b).1 = i) S S' := by
  obtain ⟨S1, lf, rg, TT, h1, h2, h3, rfl⟩ := hg
  have ok := h.gt.2.2.1
  have x0 : xa A X 0 = A 1 := rfl
  have xn : xa A X (G.n + 1) = X.ad G.n := rfl
  have nin : G.n + 1 ∉ T.od := fun q => by
    obtain ⟨k, k1, k2, -⟩ := h.nd q
    omega
  have ene : ∀ x, x = 0 ∨ x ∈ T.od → xa A X x ≠ X.ad G.n := fun x hx q => by
    rcases hx with z | z
    · subst z; exact h.fne (h 1).2.2 he (by omega) q
    · obtain ⟨k, rfl, h4, -⟩ := h.nd z
      exact h.fne (h 11 k h4).1 he (by omega) q
  -- the left node
  obtain ⟨A1, B1, o1, o2, o3, o4⟩ : ∃ A1 B1, T.od = A1 ++ B1 ∧ (A1 = [] ∨ snW G W (A1.getLastD 0) = true) ∧ (A1.filter (snW G W)).length = ix ∧ lf = xa A X (A1.getLastD 0) := by
    rcases h1 with ⟨q1, q2, -⟩ | ⟨A2, B2, q1, q2, q3, q4, -⟩
    · exact ⟨[], T.od, rfl, Or.inl rfl, q1.symm, q2⟩
    · have q1' : T.od.map (xa A X) = (A2 ++ [lf]) ++ B2 := by rw [q1]; simp
      obtain ⟨A3, B3, r1, r2, r3⟩ := map_pre q1'
      rcases snoc_cases A3 with z | ⟨C, y, z⟩
      · rw [z] at r2; simp at r2
      · subst z
        have r4 : A2 ++ [lf] = C.map (xa A X) ++ [xa A X y] := by rw [r2, List.map_append]; rfl
        obtain ⟨r5, r6⟩ := List.append_inj' r4 rfl
        injection r6 with r6 _
        have yo : y ∈ T.od := by rw [r1]; simp
        have ys : snW G W y = true := (h.sn yo).1 (by rw [← r6]; exact q3)
        refine ⟨C ++ [y], B3, r1, Or.inr (by rw [List.getLastD_concat]; exact ys), ?_, by rw [List.getLastD_concat]; exact r6⟩
        rw [r5, h.seen (fun x hx => by rw [r1]; simp [hx])] at q4
        rw [List.filter_append, List.length_append, q4]
        simp [ys]; omega
  have lO : A1.getLastD 0 = 0 ∨ A1.getLastD 0 ∈ T.od := last_in.elim (fun w => Or.inl w.1) (fun w => Or.inr (by rw [o1]; exact List.mem_append_left _ w))
  -- the right node
  obtain ⟨rg', g1, g2⟩ : ∃ rg', T.rgt (ivW G W) (A1.getLastD 0) B1 rg' ∧ rg = rg'.map (xa A X) := by
    obtain ⟨A2, B2, q1, q2, q3⟩ := h2
    obtain ⟨A3, B3, r1, r2, r3⟩ := map_pre q1
    have e3 : A1 = A3 ∧ B1 = B3 := by
      refine pre_uniq (o1.symm.trans r1) (o1 ▸ ok.2.1) (o1 ▸ ok.2.2.1) ?_
      rw [r2, o4, ← x0, map_last] at q2
      have l3 : A3.getLastD 0 = 0 ∨ A3.getLastD 0 ∈ T.od := last_in.elim (fun w => Or.inl w.1) (fun w => Or.inr (by rw [r1]; exact List.mem_append_left _ w))
      exact (h.xi l3 lO q2).symm
    obtain ⟨rfl, rfl⟩ := e3
    have sw : (∃ y ∈ sibW (sB S) T.od.length (fR S lf), mI S 513 y ≠ 0) ↔ ∃ y ∈ sibW T.sb T.od.length (T.fr (A1.getLastD 0)), ivW G W y = true := by
      rw [o4, show fR S (xa A X (A1.getLastD 0)) = _ from (h 16 _ lO).2.1, h.m3 T.od.length (T.fr (A1.getLastD 0)) (h.gt.rows (A1.getLastD 0) none)]
      constructor
      · rintro ⟨y, y1, y2⟩
        obtain ⟨x, x1, rfl⟩ := List.mem_map.1 y1
        exact ⟨x, x1, (h.iv (h.gt.rows (A1.getLastD 0) none _ x x1)).1 y2⟩
      · rintro ⟨x, x1, x2⟩
        exact ⟨_, List.mem_map.2 ⟨x, x1, rfl⟩, (h.iv (h.gt.rows (A1.getLastD 0) none _ x x1)).2 x2⟩
    rcases q3 with ⟨q4, q5⟩ | ⟨q4, q5⟩
    · refine ⟨B1.find? (ivW G W), Or.inl ⟨sw.1 q4, rfl⟩, ?_⟩
      rw [q5, r3, h.m5 (fun x hx => by rw [r1]; simp [hx])]
    · exact ⟨none, Or.inr ⟨fun w => q4 (sw.2 w), rfl⟩, q5⟩
  have rO : ∀ r, rg' = some r → r ∈ T.od := fun r q => by rw [o1]; exact List.mem_append_right _ (Tr.rgt_mem g1 q)
  have hv : ∀ c, c ∈ T.od → ivW G W c = true → T.pr c ≠ 0 → ivW G W (T.pr c) = true := fun c hc w hp => by
    obtain ⟨k, rfl, k1, -⟩ := h.nd hc
    have hb := (h.gt.2.2.2.2.1 k hc hp).2
    rw [ivW_has] at w ⊢
    have hver := (h 21).1.2 k k1 w (G.ev (T.pr (k + 1) - 1)).sl
    simp only [Gr.bef, Gr.has, decide_eq_true_eq] at hb ⊢
    omega
  have hs : ∀ y, snW G W y = true → ivW G W y = true := fun y q => by
    simp only [snW, ivW, decide_eq_true_eq] at q ⊢
    omega
  obtain ⟨T', P, Q1, Q2, R, t1, t2, t3, t4, t5, t6, t7, t8, t9, t10⟩ := Tr.ins_ex (lt := lt) ok nin (by omega) hv hs o1 o2 g1
  rw [o3] at t1 t5
  have fs : fsO S lf rg = (T.row (A1.getLastD 0) rg').map (xa A X) := by
    rw [g2, o4]
    cases hr : rg' with
    | none => exact (h 16 _ lO).2.1
    | some r => exact (h 16 r (Or.inr (rO r hr))).1
  have lw : lstW (ltA S (X.ad G.n)) (sB S) T.od.length none (fsO S lf rg) = (lstW lt T.sb T.od.length none (T.row (A1.getLastD 0) rg')).map (xa A X) := by
    rw [fs]
    exact h.m4 hl T.od.length none _ (h.gt.rows _ _)
  have PO : ∀ y, y ∈ P ++ Q1 → y ∈ T.od := fun y hy => by rw [t3]; exact List.mem_append_left _ hy
  have QO : ∀ y, y ∈ Q1 ++ Q2 → y ∈ T.od := fun y hy => by rw [t3]; simp at hy ⊢; rcases hy with q | q <;> simp [q]
  have zl : ((P ++ Q1).map (xa A X)).getLastD (A 1) = xa A X ((P ++ Q1).getLastD 0) := map_last (xa A X) (P ++ Q1) 0
  -- the chain, given where the node was linked
  have chn9 : ∀ TT, (∀ b, mR TT 512 b = mR (lkS S (X.ad G.n) (((P ++ Q1).map (xa A X)).getLastD (A 1))) 512 b) → (∀ b, mR TT 511 b = mR (lkS S (X.ad G.n) (((P ++ Q1).map (xa A X)).getLastD (A 1))) 511 b) → (∀ b, isO S 5 b → isO TT 5 b) → ChP (hgF S TT (A 0) (X.ad G.n) ix) (A 1) (T'.od.map (xa A X)) := by
    intro TT k2 k3 k4
    have := ChP.link (S2 := hgF S TT (A 0) (X.ad G.n) ix) (U := (P ++ Q1).map (xa A X)) (V := (Q2 ++ R).map (xa A X)) (h 17) (by rw [t3]; simp) h.ndp h.rt0 (fun q => by
      obtain ⟨x, x1, x2⟩ := List.mem_map.1 q
      exact ene x (Or.inr x1) x2) (fun q => ene 0 (Or.inl rfl) q.symm) e5 (fun b q => hgF_O (k4 b q)) (fun b => (hgF_R (by decide)).trans (k2 b)) (fun b => (hgF_R (by decide)).trans (k3 b))
    rw [t4, List.map_append, List.map_cons]
    exact this
  have lk1 : ∀ z b, b = 511 ∨ b = 512 → ∀ c, mR (lkS S1 (X.ad G.n) z) b c = mR (lkS S (X.ad G.n) z) b c := by
    intro z b hb c
    have q := lkS_cg (S := S) (S1 := S1) (fun c => h1.ag.2.1 511 c (by decide)) (fun c => h1.ag.2.1 512 c (by decide)) (X.ad G.n) z
    rcases hb with rfl | rfl
    · exact q.1 c
    · exact q.2 c
  have od' : ∀ x, x ∈ T'.od → x = G.n + 1 ∨ x ∈ T.od := fun x hx => by
    rw [t4] at hx; rw [t3]
    simp at hx ⊢
    rcases hx with q | q | q | q | q <;> simp [q]
  have mP : ∀ (TT : MM) (c : Nat) (z : Nat) (v v1 : Option Nat) (x1 : Nat), TT = sR (sR (lkS S1 (X.ad G.n) z) 510 (X.ad G.n) v) c x1 v1 → ∀ j b, j = 508 ∨ j = 509 ∨ j = 510 → mR (hgF S TT (A 0) (X.ad G.n) ix) j b = if j = c ∧ b = x1 then v1 else if j = 510 ∧ b = X.ad G.n then v else mR S j b := by
    intro TT c z v v1 x1 hT j b hj
    rw [hgF_R (by omega), hT, mR_sR, mR_sR, lkS_R (by omega) (by omega)]
    rcases h1.s1 with q | q
    · rw [q]
    · rw [q, fgS_R (by omega)]
  have own : ∀ x, x = 0 ∨ x ∈ T.od → (F (xa A X x)).1 = i := fun x hx => by
    rcases hx with z | z
    · subst z; exact F1 (h 1).2.2
    · obtain ⟨k, rfl, k1, -⟩ := h.nd z
      exact F1 (h 11 k k1).1
  have pql : (P ++ Q1).getLastD 0 = 0 ∨ (P ++ Q1).getLastD 0 ∈ T.od := last_in.elim (fun w => Or.inl w.1) (fun w => Or.inr (PO _ w))
  have kp : ∀ (TT : MM) (c : Nat) (z : Nat) (v v1 : Option Nat) (x1 : Nat), TT = sR (sR (lkS S1 (X.ad G.n) z) 510 (X.ad G.n) v) c x1 v1 → z = ((P ++ Q1).map (xa A X)).getLastD (A 1) → (F x1).1 = i → Keep (fun b => (F b).1 = i) S (hgF S TT (A 0) (X.ad G.n) ix) := by
    intro TT c z v v1 x1 hT hz hx1
    have k1 : Keep (fun b => (F b).1 = i) S S1 := by
      rcases h1.s1 with q | q
      · rw [q]; exact Keep.rf
      · rw [q]; exact (fgS_keep S (A 0) lf ix).mono (fun b _ w => F1 (w ▸ (h 0).2))
    have zo : (F z).1 = i := by rw [hz, zl]; exact own _ pql
    have k2 : Keep (fun b => (F b).1 = i) S1 (lkS S1 (X.ad G.n) z) := lkS_keep (F1 he) zo (fun y hy => by
      rw [h1.ag.2.1 512 z (by decide), hz, (h 17).2.2.1 _ ((Q2 ++ R).map (xa A X)) (by rw [t3]; simp), map_head?] at hy
      cases hq : (Q2 ++ R).head? with
      | none => rw [hq] at hy; cases hy
      | some w =>
        rw [hq] at hy
        cases hy
        refine own w (Or.inr ?_)
        rw [t3]
        exact List.mem_append_right _ (List.mem_of_mem_head? hq))
    subst hT
    exact ((((((k1.tr k2).sR (F1 he)).sR hx1).sI (F1 he)).sI (F1 (h 0).2)).sI (F1 (h 0).2)).sR (F1 (h 0).2) |>.sI (F1 (h 0).2)
  have fin : ∀ TT, hgR S (hgF S TT (A 0) (X.ad G.n) ix) (A 0) (X.ad G.n) ix → ChP (hgF S TT (A 0) (X.ad G.n) ix) (A 1) (T'.od.map (xa A X)) → (∀ x, x = 0 ∨ x ∈ T'.od → mR (hgF S TT (A 0) (X.ad G.n) ix) 508 (xa A X x) = (T'.fl x).map (xa A X) ∧ mR (hgF S TT (A 0) (X.ad G.n) ix) 509 (xa A X x) = (T'.fr x).map (xa A X) ∧ (x ≠ 0 → mR (hgF S TT (A 0) (X.ad G.n) ix) 510 (xa A X x) = (T'.sb x).map (xa A X))) → (∀ k, k ≠ G.n + 1 → T'.pr k = T.pr k) → Keep (fun b => (F b).1 = i) S (hgF S TT (A 0) (X.ad G.n) ix) → ∃ T', T.ins T' (ivW G W) (snW G W) lt (G.n + 1) ix ∧ hgR S (hgF S TT (A 0) (X.ad G.n) ix) (A 0) (X.ad G.n) ix ∧ (∀ x, x = 0 ∨ x ∈ T'.od → mR (hgF S TT (A 0) (X.ad G.n) ix) 508 (xa A X x) = (T'.fl x).map (xa A X) ∧ mR (hgF S TT (A 0) (X.ad G.n) ix) 509 (xa A X x) = (T'.fr x).map (xa A X) ∧ (x ≠ 0 → mR (hgF S TT (A 0) (X.ad G.n) ix) 510 (xa A X x) = (T'.sb x).map (xa A X))) ∧ ChP (hgF S TT (A 0) (X.ad G.n) ix) (A 1) (T'.od.map (xa A X)) ∧ (∃ U V, T.od = U ++ V ∧ T'.od = U ++ (G.n + 1) :: V ∧ (U.filter (snW G W)).length = ix) ∧ (∀ k, k ≠ G.n + 1 → T'.pr k = T.pr k) ∧ Keep (fun b => (F b).1 = i) S (hgF S TT (A 0) (X.ad G.n) ix) :=
    fun TT f1 f2 f3 f4 f5 => ⟨T', t1, f1, f3, f2, ⟨P ++ Q1, Q2 ++ R, t3, t4, t5⟩, f4, f5⟩
  have nofl : T.fl (G.n + 1) = none := ok.2.2.2.1 _ nin
  have nofr : T.fr (G.n + 1) = none := ok.2.2.2.2.1 _ nin (by omega)
  have old : ∀ x, x = 0 ∨ x ∈ T'.od → x ≠ G.n + 1 → x = 0 ∨ x ∈ T.od := fun x hx q => hx.elim Or.inl (fun w => (od' x w).elim (fun z => absurd z q) Or.inr)
  rcases h3 with ⟨x, D, b1, b2, b3, b4, b5⟩ | ⟨b1, b2, b5⟩ | ⟨r, D, p, b1, b2, b3, b4, b6, b7, b5⟩
  · -- behind a lesser sibling
    rw [lw] at b1
    obtain ⟨x', c1, rfl⟩ : ∃ x', lstW lt T.sb T.od.length none (T.row (A1.getLastD 0) rg') = some x' ∧ xa A X x' = x := by
      cases hq : lstW lt T.sb T.od.length none (T.row (A1.getLastD 0) rg') with
      | none => rw [hq] at b1; cases b1
      | some x' => rw [hq] at b1; exact ⟨x', rfl, Option.some.inj b1⟩
    have xo : x' ∈ T.od := h.gt.rows _ _ _ x' (lstW_sib c1)
    obtain ⟨D', d1, d2, d3⟩ := t10 x' c1
    have dO : ∀ y ∈ D', y ∈ T.od := fun y hy => by
      obtain ⟨X1, A9, B9, Y1, -, r2, r3, -⟩ := (ok.1.at ok.2.1 xo)
      rw [← r2.uniq d1] at hy
      rw [r3]; simp [hy]
    have eD : D = D'.map (xa A X) := by
      have u := h.m2 d1 dO
      rw [← show fR S (xa A X x') = _ from (h 16 x' (Or.inr xo)).2.1] at u
      exact b3.1.uniq u.1
    have ez : D.getLastD (xa A X x') = ((P ++ Q1).map (xa A X)).getLastD (A 1) := by
      rw [zl, eD, map_last, last_app d2, d3]
    have tp : T'.fl = T.fl ∧ T'.fr = T.fr ∧ T'.sb = updO (updO T.sb (G.n + 1) (T.sb x')) x' (some (G.n + 1)) ∧ T'.pr = updN T.pr (G.n + 1) (rg'.getD (A1.getLastD 0)) := by
      rw [t2]; unfold Tr.put; rw [c1]; exact ⟨rfl, rfl, rfl, rfl⟩
    have hT : lkT S1 TT (X.ad G.n) (D.getLastD (xa A X x')) 510 (xa A X x') (sB S (xa A X x')) (some (X.ad G.n)) := b5
    refine fin TT (hT.all (by decide) h1.s1) (chn9 TT (fun b => ?_) (fun b => ?_) (fun b q => ?_)) (fun y hy => ?_) (fun k hk => by rw [tp.2.2.2]; exact updN_o hk) ?_
    · rw [b5, mR_sR, if_neg (fun q => absurd q.1 (by decide)), mR_sR, if_neg (fun q => absurd q.1 (by decide)), ← ez]; exact lk1 _ _ (Or.inr rfl) b
    · rw [b5, mR_sR, if_neg (fun q => absurd q.1 (by decide)), mR_sR, if_neg (fun q => absurd q.1 (by decide)), ← ez]; exact lk1 _ _ (Or.inl rfl) b
    · rw [b5]
      exact isO_sR (isO_sR (lkS_O.2 ((h1.ag.1 5 b).2 q)))
    · have m := mP TT _ _ _ _ _ b5
      by_cases q : y = G.n + 1
      · subst q
        rw [xn, m 508 _ (Or.inl rfl), m 509 _ (Or.inr (Or.inl rfl)), m 510 _ (Or.inr (Or.inr rfl)), tp.1, tp.2.1, tp.2.2.1, nofl, nofr]
        refine ⟨by rw [if_neg (fun q => absurd q.1 (by decide)), if_neg (fun q => absurd q.1 (by decide))]; exact efl, by rw [if_neg (fun q => absurd q.1 (by decide)), if_neg (fun q => absurd q.1 (by decide))]; exact efr, fun _ => ?_⟩
        rw [if_neg (fun q => ene x' (Or.inr xo) q.2.symm), if_pos ⟨rfl, rfl⟩, updO_o (fun q : G.n + 1 = x' => nin (q.symm ▸ xo)), updO_s]
        exact (h 16 x' (Or.inr xo)).2.2 (fun e => ok.2.2.1 (e ▸ xo))
      · have hy' := old y hy q
        obtain ⟨p1, p2, p3⟩ := h 16 y hy'
        rw [m 508 _ (Or.inl rfl), m 509 _ (Or.inr (Or.inl rfl)), m 510 _ (Or.inr (Or.inr rfl)), tp.1, tp.2.1, tp.2.2.1]
        refine ⟨by rw [if_neg (fun q => absurd q.1 (by decide)), if_neg (fun q => absurd q.1 (by decide))]; exact p1, by rw [if_neg (fun q => absurd q.1 (by decide)), if_neg (fun q => absurd q.1 (by decide))]; exact p2, fun y0 => ?_⟩
        by_cases w : y = x'
        · subst w; rw [if_pos ⟨rfl, rfl⟩, updO_s]; rfl
        · rw [if_neg (fun q => w (h.xi hy' (Or.inr xo) q.2)), if_neg (fun z => ene y hy' z.2), updO_o w, updO_o q]
          exact p3 y0
    · exact kp TT _ _ _ _ _ b5 ez (own x' (Or.inr xo))
  · -- the first at the right
    have rn : rg' = none := by
      cases hq : rg' with
      | none => rfl
      | some r => rw [g2, hq] at b2; cases b2
    subst rn
    have c1 : lstW lt T.sb T.od.length none (T.row (A1.getLastD 0) none) = none := by
      rw [lw] at b1
      cases hq : lstW lt T.sb T.od.length none (T.row (A1.getLastD 0) none) with
      | none => rfl
      | some x' => rw [hq] at b1; cases b1
    have q1n := t9 c1
    have ez : lf = ((P ++ Q1).map (xa A X)).getLastD (A 1) := by
      rw [zl, q1n, List.append_nil, t7 rfl, o4]
    have tp : T'.fl = T.fl ∧ T'.fr = updO T.fr (A1.getLastD 0) (some (G.n + 1)) ∧ T'.sb = updO T.sb (G.n + 1) (T.fr (A1.getLastD 0)) ∧ T'.pr = updN T.pr (G.n + 1) (A1.getLastD 0) := by
      rw [t2]; unfold Tr.put; rw [c1]; exact ⟨rfl, rfl, rfl, rfl⟩
    have hT : lkT S1 TT (X.ad G.n) lf 509 lf (fR S lf) (some (X.ad G.n)) := b5
    refine fin TT (hT.all (by decide) h1.s1) (chn9 TT (fun b => ?_) (fun b => ?_) (fun b q => ?_)) (fun y hy => ?_) (fun k hk => by rw [tp.2.2.2]; exact updN_o hk) ?_
    · rw [b5, mR_sR, if_neg (fun q => absurd q.1 (by decide)), mR_sR, if_neg (fun q => absurd q.1 (by decide)), ← ez]; exact lk1 _ _ (Or.inr rfl) b
    · rw [b5, mR_sR, if_neg (fun q => absurd q.1 (by decide)), mR_sR, if_neg (fun q => absurd q.1 (by decide)), ← ez]; exact lk1 _ _ (Or.inl rfl) b
    · rw [b5]
      exact isO_sR (isO_sR (lkS_O.2 ((h1.ag.1 5 b).2 q)))
    · have m := mP TT _ _ _ _ _ b5
      by_cases q : y = G.n + 1
      · subst q
        rw [xn, m 508 _ (Or.inl rfl), m 509 _ (Or.inr (Or.inl rfl)), m 510 _ (Or.inr (Or.inr rfl)), tp.1, tp.2.1, tp.2.2.1, nofl, updO_o (fun q : G.n + 1 = A1.getLastD 0 => lO.elim (fun w => absurd (q.trans w) (by omega)) (fun w => nin (q.symm ▸ w))), nofr]
        refine ⟨by rw [if_neg (fun q => absurd q.1 (by decide)), if_neg (fun q => absurd q.1 (by decide))]; exact efl, ?_, fun _ => ?_⟩
        · rw [if_neg (fun q => ene _ lO (q.2.trans o4).symm), if_neg (fun q => absurd q.1 (by decide))]; exact efr
        · rw [if_neg (fun q => absurd q.1 (by decide)), if_pos ⟨rfl, rfl⟩, updO_s, o4]
          exact (h 16 _ lO).2.1
      · have hy' := old y hy q
        obtain ⟨p1, p2, p3⟩ := h 16 y hy'
        rw [m 508 _ (Or.inl rfl), m 509 _ (Or.inr (Or.inl rfl)), m 510 _ (Or.inr (Or.inr rfl)), tp.1, tp.2.1, tp.2.2.1]
        refine ⟨by rw [if_neg (fun q => absurd q.1 (by decide)), if_neg (fun q => absurd q.1 (by decide))]; exact p1, ?_, fun y0 => ?_⟩
        · by_cases w : y = A1.getLastD 0
          · rw [if_pos ⟨rfl, by rw [w, o4]⟩, w, updO_s]; rfl
          · rw [if_neg (fun q => w (h.xi hy' lO (q.2.trans o4))), if_neg (fun q => absurd q.1 (by decide)), updO_o w]; exact p2
        · rw [if_neg (fun q => absurd q.1 (by decide)), if_neg (fun z => ene y hy' z.2), updO_o q]; exact p3 y0
    · exact kp TT _ _ _ _ _ b5 ez (by rw [o4]; exact own _ lO)
  · -- the first at the left of the right node
    obtain ⟨r', rfl, rfl⟩ : ∃ r', rg' = some r' ∧ xa A X r' = r := by
      cases hq : rg' with
      | none => rw [g2, hq] at b2; cases b2
      | some r' => rw [g2, hq] at b2; exact ⟨r', rfl, Option.some.inj b2⟩
    have ro := rO r' rfl
    have c1 : lstW lt T.sb T.od.length none (T.row (A1.getLastD 0) (some r')) = none := by
      rw [lw] at b1
      cases hq : lstW lt T.sb T.od.length none (T.row (A1.getLastD 0) (some r')) with
      | none => rfl
      | some x' => rw [hq] at b1; cases b1
    have q1n := t9 c1
    rw [q1n, List.nil_append] at t6 QO
    rw [q1n, List.append_nil] at t3 t4 zl PO
    have eD : D = Q2.map (xa A X) := by
      have u := h.m2 (p := T.fl r') t6 QO
      rw [← show fL S (xa A X r') = _ from (h 16 r' (Or.inr ro)).1] at u
      exact b4.1.uniq u.1
    obtain ⟨R', rfl⟩ : ∃ R', R = r' :: R' := by
      have := t8 r' rfl
      cases R with
      | nil => cases this
      | cons v R => cases this; exact ⟨R, rfl⟩
    have ez : p = ((P ++ Q1).map (xa A X)).getLastD (A 1) := by
      rw [q1n, List.append_nil]
      have hc := (h 17).2.2.2
      have e9 : T.od.map (xa A X) = P.map (xa A X) ++ D.headD (xa A X r') :: ((Q2 ++ r' :: R').map (xa A X)).tail := by
        rw [t3, List.map_append, eD]
        cases Q2 <;> rfl
      have := hc _ _ _ e9
      rw [b7] at this
      exact Option.some.inj this
    have tp : T'.fl = updO T.fl r' (some (G.n + 1)) ∧ T'.fr = T.fr ∧ T'.sb = updO T.sb (G.n + 1) (T.fl r') ∧ T'.pr = updN T.pr (G.n + 1) r' := by
      rw [t2]; unfold Tr.put; rw [c1]; exact ⟨rfl, rfl, rfl, rfl⟩
    have hT : lkT S1 TT (X.ad G.n) p 508 (xa A X r') (fL S (xa A X r')) (some (X.ad G.n)) := b5
    refine fin TT (hT.all (by decide) h1.s1) (chn9 TT (fun b => ?_) (fun b => ?_) (fun b q => ?_)) (fun y hy => ?_) (fun k hk => by rw [tp.2.2.2]; exact updN_o hk) ?_
    · rw [b5, mR_sR, if_neg (fun q => absurd q.1 (by decide)), mR_sR, if_neg (fun q => absurd q.1 (by decide)), ← ez]; exact lk1 _ _ (Or.inr rfl) b
    · rw [b5, mR_sR, if_neg (fun q => absurd q.1 (by decide)), mR_sR, if_neg (fun q => absurd q.1 (by decide)), ← ez]; exact lk1 _ _ (Or.inl rfl) b
    · rw [b5]
      exact isO_sR (isO_sR (lkS_O.2 ((h1.ag.1 5 b).2 q)))
    · have m := mP TT _ _ _ _ _ b5
      by_cases q : y = G.n + 1
      · subst q
        rw [xn, m 508 _ (Or.inl rfl), m 509 _ (Or.inr (Or.inl rfl)), m 510 _ (Or.inr (Or.inr rfl)), tp.1, tp.2.1, tp.2.2.1, nofr, updO_o (fun q : G.n + 1 = r' => nin (q.symm ▸ ro)), nofl]
        refine ⟨?_, by rw [if_neg (fun q => absurd q.1 (by decide)), if_neg (fun q => absurd q.1 (by decide))]; exact efr, fun _ => ?_⟩
        · rw [if_neg (fun q => ene _ (Or.inr ro) q.2.symm), if_neg (fun q => absurd q.1 (by decide))]; exact efl
        · rw [if_neg (fun q => absurd q.1 (by decide)), if_pos ⟨rfl, rfl⟩, updO_s]
          exact (h 16 _ (Or.inr ro)).1
      · have hy' := old y hy q
        obtain ⟨p1, p2, p3⟩ := h 16 y hy'
        rw [m 508 _ (Or.inl rfl), m 509 _ (Or.inr (Or.inl rfl)), m 510 _ (Or.inr (Or.inr rfl)), tp.1, tp.2.1, tp.2.2.1]
        refine ⟨?_, by rw [if_neg (fun q => absurd q.1 (by decide)), if_neg (fun q => absurd q.1 (by decide))]; exact p2, fun y0 => ?_⟩
        · by_cases w : y = r'
          · subst w; rw [if_pos ⟨rfl, rfl⟩, updO_s]; rfl
          · rw [if_neg (fun q => w (h.xi hy' (Or.inr ro) q.2)), if_neg (fun q => absurd q.1 (by decide)), updO_o w]; exact p1
        · rw [if_neg (fun q => absurd q.1 (by decide)), if_neg (fun z => ene y hy' z.2), updO_o q]; exact p3 y0
    · exact kp TT _ _ _ _ _ b5 ez (own r' (Or.inr ro))
end HGH
