/-! ===== Graph.enter: what its walk rests on ===== -/
/-- a new event's fields -/
def evS (S : MM) (e : Nat) (g : Option Nat) (x t : Int32) (p b : Option Nat) (c i : Int32) : MM := sI (sI (sR (sR (sI (sI (sR (sI (sI (sI (sR (sR (sR (sR (sR (sR S 507 e none) 508 e none) 509 e none) 510 e none) 511 e none) 512 e none) 513 e 0) 514 e (-1)) 515 e 0) 500 e g) 501 e x) 502 e t) 503 e p) 504 e b) 505 e c) 506 e i
def T_eini2 : TR := fun Rc Rs av S cs sl K _Kx => match av with
  | [.inr (.inr e_o), .inr (.inr g), .inl x, .inl t, .inr (.inr p), .inr (.inr b), .inl c, .inl i] => pa e_o fun e => ((isO S 5 e) ∧ cs ≤ Rc ∧ sl ≤ Rs ∧ (K none (evS S e g x t p b c i) cs sl))
  | _ => False
def sp_eini2 (e : Nat) (g : Option Nat) (x : Int32) (t : Int32) (p : Option Nat) (b : Option Nat) (c : Int32) (i : Int32)  : Sp := (fun av S => av = [.inr (.inr (some e)), .inr (.inr g), .inl x, .inl t, .inr (.inr p), .inr (.inr b), .inl c, .inl i] ∧ (isO S 5 e), fun _ S => 0, fun _ S => 0, fun _ S rv S' => rv = none ∧ S' = evS S e g x t p b c i, fun _ _ _ _ => False)
theorem u_eini2 (l : Launch) : Us l yX4_init cX4_init 8 none 1 20 98 T_eini2 := by
  intro Rc Rs av S cs sl K Kx h
  unfold T_eini2 at h
  split at h
  · rename_i e_o g x t p b c i
    obtain ⟨e, rfl, h_1⟩ := pa_of h
    obtain ⟨hp, hc, hs, hk⟩ := h_1
    refine ⟨(sp_eini2 e g x t p b c i), c_eini l e g x t p b c i, fun _ _ h9 => ⟨_, _, h9.1⟩, ⟨rfl, hp⟩, hc, hs, fun S' h8 => by
      obtain ⟨-, h8⟩ := h8
      subst h8
      exact hk, fun _ _ q => q.elim⟩
  · exact h.elim
section EVS
variable {S : MM} {e : Nat} {g p b : Option Nat} {x t c i : Int32}
theorem evS_keep {P : Nat → Prop} (h : P e) : Keep P S (evS S e g x t p b c i) := by
  unfold evS
  exact ((((((((((((((((Keep.rf.sR h).sR h).sR h).sR h).sR h).sR h).sI h).sI h).sI h).sR h).sI h).sI h).sR h).sR h).sI h).sI h)
theorem evS_R {j : Nat} : mR (evS S e g x t p b c i) j e = if j = 504 then b else if j = 503 then p else if j = 500 then g else if 507 ≤ j ∧ j ≤ 512 then none else mR S j e := by
  unfold evS
  rw [mR_sI, mR_sI, mR_sR]
  by_cases h4 : j = 504
  · rw [if_pos ⟨h4, rfl⟩, if_pos h4]
  · rw [if_neg (fun q => h4 q.1), if_neg h4, mR_sR]
    by_cases h3 : j = 503
    · rw [if_pos ⟨h3, rfl⟩, if_pos h3]
    · rw [if_neg (fun q => h3 q.1), if_neg h3, mR_sI, mR_sI, mR_sR]
      by_cases h0 : j = 500
      · rw [if_pos ⟨h0, rfl⟩, if_pos h0]
      · rw [if_neg (fun q => h0 q.1), if_neg h0, mR_sI, mR_sI, mR_sI, mR_sR, mR_sR, mR_sR, mR_sR, mR_sR, mR_sR]
        by_cases hr : 507 ≤ j ∧ j ≤ 512
        · rw [if_pos hr]
          rcases (show j = 512 ∨ j = 511 ∨ j = 510 ∨ j = 509 ∨ j = 508 ∨ j = 507 by omega) with q | q | q | q | q | q <;> subst q <;> simp
        · rw [if_neg hr, if_neg (fun q => hr (by omega)), if_neg (fun q => hr (by omega)), if_neg (fun q => hr (by omega)), if_neg (fun q => hr (by omega)), if_neg (fun q => hr (by omega)), if_neg (fun q => hr (by omega))]
theorem evS_I {j : Nat} : mI (evS S e g x t p b c i) j e = if j = 506 then i else if j = 505 then c else if j = 502 then t else if j = 501 then x else if j = 515 then 0 else if j = 514 then -1 else if j = 513 then 0 else mI S j e := by
  unfold evS
  rw [mI_sI, mI_sI, mI_sR, mI_sR, mI_sI, mI_sI, mI_sR, mI_sI, mI_sI, mI_sI, mI_sR, mI_sR, mI_sR, mI_sR, mI_sR, mI_sR]
  simp only [and_true]
end EVS
/-- in a tree the next sibling of a node is a node -/
theorem Rp.sbm {fl fr sb : Nat → Option Nat} {n : Nat} {q : Option Nat} {O : List Nat} (h : Rp fl fr sb n q O) {x y : Nat} (hx : x ∈ O) (hy : sb x = some y) : y ∈ O := by
  induction n generalizing q O with
  | zero =>
    cases q with
    | none => rw [Rp.no] at h; subst h; cases hx
    | some z => exact h.elim
  | succ n ih =>
    cases q with
    | none => rw [Rp.no] at h; subst h; cases hx
    | some z =>
      obtain ⟨A, B, C, a, b, c, rfl⟩ := h
      simp only [List.mem_append, List.mem_cons] at hx ⊢
      rcases hx with w | w | w | w
      · exact Or.inl (ih a w)
      · subst w
        rw [hy] at c
        cases n with
        | zero => exact c.elim
        | succ n =>
          obtain ⟨A', B', C', -, -, -, rfl⟩ := c
          exact Or.inr (Or.inr (Or.inr (by simp)))
      · exact Or.inr (Or.inr (Or.inl (ih b w)))
      · exact Or.inr (Or.inr (Or.inr (ih c w)))
section XCG
variable {S S' : MM} {F F' : Nat → Nat × Nat} {i : Nat} {A : Nat → Nat} {X X' : GX} {G : Gr} {T : Tr} {H : List Nat} {W : Nat → Nat}
/-- addresses of what is not there are no matter -/
theorem GI.xcg (h : GI S F i A X G T H W) (h1 : ∀ k, k < G.n → X'.ad k = X.ad k ∧ X'.pw k = X.pw k ∧ X'.bf k = X.bf k) (h2 : X'.aa = X.aa) : GI S F i A X' G T H W := by
  have ok := h.gt.2.2.1
  have xo : ∀ x, x = 0 ∨ x ∈ T.od → xa A X' x = xa A X x := fun x hx => by
    rcases hx with z | z
    · subst z; rfl
    · obtain ⟨k, rfl, k1, -⟩ := h.nd z
      exact (h1 k k1).1
  have mo : ∀ L : List Nat, (∀ x ∈ L, x ∈ T.od) → L.map (xa A X') = L.map (xa A X) := fun L hL => List.map_congr_left (fun x hx => xo x (Or.inr (hL x hx)))
  have me : ∀ L : List Nat, (∀ k ∈ L, k < G.n) → L.map X'.ad = L.map X.ad := fun L hL => List.map_congr_left (fun k hk => (h1 k (hL k hk)).1)
  have mp : ∀ o : Option Nat, (∀ y, o = some y → y ∈ T.od) → o.map (xa A X') = o.map (xa A X) := fun o ho => by
    cases o with
    | none => rfl
    | some y => show some _ = some _; rw [xo y (Or.inr (ho y rfl))]
  have ef : ∀ k, k < G.n → EvF S X' G k := fun k hk => by
    have e := h.ev.2.1 k hk
    obtain ⟨q1, q2, q3⟩ := h1 k hk
    unfold EvF at e ⊢
    rw [q1, q2, q3, h2]
    obtain ⟨n1, n2, n3, n4, n5, n6, n7, n8, n9, n10, n11, n12, n13, n14, n15⟩ := e
    refine ⟨n1, n2, n3, n4, n5, n6, n7, fun j hj => ?_, n9, n10, n11, n12, n13, n14, fun z => ?_⟩
    · have hp := h.ok.pr1 k hk ((G.ev k).pr.getD j 0) (by rw [getD_el hj]; exact List.getElem_mem _)
      rw [(h1 _ (by omega)).1]; exact n8 j hj
    · have ht := (h.gt.2.1 k hk).2 z
      rw [(h1 _ (by omega)).1]; exact n15 z
  intro j
  match j with
  | 0 => exact h 0
  | 1 => exact h 1
  | 2 => exact ⟨(h 2).1, (h 2).2.1, (h 2).2.2.1, by rw [me _ (fun k hk => List.mem_range.1 hk)]; exact (h 2).2.2.2⟩
  | 3 => exact (by rw [GIf, h2]; exact h 3)
  | 4 => exact h 4
  | 5 => exact ⟨(h 5).1, (h 5).2.1, (h 5).2.2.1, by rw [me _ (fun k hk => (((h 20 : HdS G H).1 k).1 hk).1)]; exact (h 5).2.2.2.1, (h 5).2.2.2.2⟩
  | 6 => exact h 6
  | 7 => exact h 7
  | 8 => exact h 8
  | 9 => exact h 9
  | 10 =>
    refine ⟨h.ok, ef, fun s hs => by rw [AgF, h2]; exact h.ev.2.2.1 s hs, fun a b ha hb q => ?_⟩
    rw [(h1 a ha).1, (h1 b hb).1] at q
    exact h.ev.2.2.2 a b ha hb q
  | 11 => exact fun k hk => (by rw [(h1 k hk).1, (h1 k hk).2.1, (h1 k hk).2.2]; exact h 11 k hk)
  | 12 =>
    intro s hs
    rw [h2, me (evL G s) (fun k hk => List.mem_range.1 (List.mem_filter.1 hk).1)]
    exact h 12 s hs
  | 13 => exact h 13
  | 14 => exact fun k hk c => (by rw [(h1 k hk).1]; exact h 14 k hk c)
  | 15 => exact fun k hk c => (by rw [(h1 k hk).1]; exact h 15 k hk c)
  | 16 =>
    intro x hx
    rw [xo x hx, mp (T.fl x) (fun y hy => (ok.2.2.2.2.2.2 x 1 y (by rw [hy]; exact List.mem_cons_self)).1), mp (T.fr x) (fun y hy => (ok.2.2.2.2.2.1 x 1 y (by rw [hy]; exact List.mem_cons_self)).1)]
    refine ⟨(h 16 x hx).1, (h 16 x hx).2.1, fun x0 => ?_⟩
    have xo' := hx.resolve_left x0
    rw [mp (T.sb x) (fun y hy => ok.1.sbm xo' hy)]
    exact (h 16 x hx).2.2 x0
  | 17 => exact (by rw [GIf, mo T.od (fun x hx => hx)]; exact h 17)
  | 18 =>
    obtain ⟨U, V, e, a1, a2⟩ := h 18
    refine ⟨U, V, e, ?_, ?_⟩
    · rw [mo U (fun x hx => by rw [e]; exact List.mem_append_left _ hx)]; exact a1
    · rw [mo U (fun x hx => by rw [e]; exact List.mem_append_left _ hx)]; exact a2
  | 19 => exact h 19
  | 20 => exact h 20
  | 21 => exact h 21
  | n + 22 => exact trivial
/-- something of one's own comes, that is not of the graph yet -/
theorem GI.fresh (h : GI S F i A X G T H W) (hF : FO S F) (hi : i ≠ 0) {q : Nat} {v : Nat × Nat} (hq : q ∉ mL S) (hk : Keep (fun b => b = q) S S') (hS : ∀ b, b ∈ mL S' ↔ b ∈ mL S ∨ b = q) : GI S' (fun b => if b = q then v else F b) i A X G T H W ∧ FO S' (fun b => if b = q then v else F b) ∧ (∀ b, b ∈ mL S → (fun b => if b = q then v else F b) b = F b) ∧ Keep (fun b => (F b).1 = i) S S' := by
  have hq0 : F q = (0, 0) := Classical.byContradiction (fun z => hq (hF q z))
  have hf : ∀ b, b ∈ mL S → (fun b => if b = q then v else F b) b = F b := fun b hb => if_neg (fun (e : b = q) => hq (e ▸ hb))
  have hP : ∀ b, (F b).1 = i → ¬ b = q := fun b hb e => by
    rw [e, hq0] at hb
    exact hi hb.symm
  refine ⟨h.keep hk hP hF hi hf, fun b hb => ?_, hf, hk.mono (fun b hb e => absurd (e ▸ hb) hq)⟩
  rw [hS]
  by_cases z : b = q
  · exact Or.inr z
  · have hb : (if b = q then v else F b) ≠ (0, 0) := hb
    rw [if_neg z] at hb
    exact Or.inl (hF b hb)
theorem RwE.keep {r : Nat} {P : List Nat} {G1 : Gr} {X1 : GX} (h : RwE S X G r P) (hk : Keep (fun b => (F b).1 = i) S S') (hr : (F r).1 ≠ i) (hX : X1.ad = X.ad) (hG : G1.n = G.n) : RwE S' X1 G1 r P := by
  obtain ⟨a, b, c, d⟩ := h
  have e1 := (hk.2.1 r a.1 hr).2.2.2.2.2
  have e2 := (hk.1 r a.1).2.2
  refine ⟨hk.isO a, by rw [e2]; exact b, by rw [e2]; exact c, fun j hj => ?_⟩
  rw [e1, hX, hG]; exact d j hj
/-- what striking asks -/
theorem GI.skq {e : Ev} (h : GI S F i A X G T H W) (hn : EvN S X G e) (hx : e.ix < c1 G W G.n) : ∃ U V, (isO S 6 (A 0) ∧ isO S 5 (X.ad G.n) ∧ mI S 506 (X.ad G.n) = nI e.ix ∧ mR S 600 (A 0) = some (A 1) ∧ ChP S (A 1) (T.od.map (xa A X)) ∧ (T.od.map (xa A X)).length ≤ 100000 ∧ T.od.map (xa A X) = U ++ V ∧ mR S 610 (A 0) = some (U.getLastD (A 1)) ∧ mI S 611 (A 0) = nI (seenC S U) ∧ e.ix < seenC S (T.od.map (xa A X)) ∧ A 0 ≠ X.ad G.n) := by
  obtain ⟨U, V, e1, a1, a2⟩ := h 18
  have l1 := h.odl
  have l2 := h.ok.hn
  refine ⟨U.map (xa A X), V.map (xa A X), (h 0).1, hn.1.1, hn.1.2.2.2.2.2.2.2.2.2.2.2.2.2, (h 1).1, h 17, by rw [List.length_map]; omega, by rw [e1, List.map_append], a1, a2, ?_, isO_ne (h 0).1 hn.1.1 (by decide)⟩
  rw [h.seen (fun x hx => hx), ← h.gt.c1]; exact hx
end XCG
theorem EnP.gok {G : Gr} {a : Nat} {P : List Nat} {oc : Option Nat} {ix s : Nat} (h : EnP G a P oc ix s) (hG : G.ok) : (eGr G s a).ok := by
  unfold eGr
  rcases h.2.2.2.2.2.2.1 with q | ⟨q1, q2, q3⟩
  · rw [if_pos q.1]; exact hG
  · rw [if_neg (by omega)]; exact Gr.agn_ok hG q2 h.2.1 q3
theorem alC_le (c l : Nat) : alC c l ≤ 1 := by
  unfold alC
  split <;> omega
theorem alZ_22 {c l : Nat} (h : c = 0 ∨ c = 10 ∨ c = 15 ∨ c = 22) (hl : l ≤ 16) : alZ c l ≤ 22 := by
  unfold alZ
  split
  · rename_i q
    unfold gcap
    split <;> omega
  · omega
