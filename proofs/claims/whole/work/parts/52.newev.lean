/-! ===== The new event in the memory; what hanging and striking leave ===== -/
def EvN (S : MM) (X : GX) (G : Gr) (e : Ev) : Prop := (isO S 5 (X.ad G.n) ∧ mR S 500 (X.ad G.n) = some (X.aa e.sl) ∧ mI S 501 (X.ad G.n) = nI e.nu ∧ mI S 502 (X.ad G.n) = nI G.n ∧ mR S 503 (X.ad G.n) = some (X.pw G.n) ∧ isO S 23 (X.pw G.n) ∧ mN S (X.pw G.n) = e.pr.length ∧ (∀ j, j < e.pr.length → eR S (X.pw G.n) j = some (X.ad (e.pr.getD j 0))) ∧ mR S 504 (X.ad G.n) = some (X.bf G.n) ∧ isO S 17 (X.bf G.n) ∧ mN S (X.bf G.n) = 16 ∧ (∀ s, s < 16 → s ≠ e.sl → eI S (X.bf G.n) s = nI (e.pa s)) ∧ mI S 505 (X.ad G.n) = chI e.ch ∧ mI S 506 (X.ad G.n) = nI e.ix) ∧ mR S 508 (X.ad G.n) = none ∧ mR S 509 (X.ad G.n) = none ∧ mI S 514 (X.ad G.n) = -1
theorem evt_push {S : MM} {X : GX} {G : Gr} {e : Ev} (h : EvT S X G) (hn : EvN S X G e) (hi : EvIn G e) (hne : ∀ k, k < G.n → X.ad k ≠ X.ad G.n) (ht : e.ch = none → mR S 507 (X.ad G.n) = some (X.ad e.tg)) : EvT S X (G.push e G.m G.ag) := by
  have old : ∀ k, k < G.n + 1 → k < G.n ∨ k = G.n := fun k hk => by omega
  refine ⟨hi.ok h.1, fun k hk => ?_, fun s hs => h.2.2.1 s hs, fun k l hk hl q => ?_⟩
  · rcases old k hk with q | q
    · unfold EvF
      rw [Gr.push_old q]
      exact h.2.1 k q
    · subst q
      obtain ⟨⟨n1, n2, n3, n4, n5, n6, n7, n8, n9, n10, n11, n12, n13, n14⟩, -⟩ := hn
      unfold EvF
      rw [Gr.push_new]
      exact ⟨n1, n2, n3, n4, n5, n6, n7, n8, n9, n10, n11, n12, n13, n14, ht⟩
  · rcases old k hk with z | z <;> rcases old l hl with w | w
    · exact h.2.2.2 k l z w q
    · exact absurd (w ▸ q) (hne k z)
    · exact absurd (z ▸ q.symm) (hne l w)
    · rw [z, w]
def giD (A : Nat → Nat) (t : Nat) : Nat := if t = 0 then A 3 else if t = 1 then A 6 else A (21 + 2 * (t - 2))
def giC (A : Nat → Nat) (G : Gr) (t : Nat) : Nat := if t = 0 then capF G.n else if t = 1 then A 7 else capF (G.cn (t - 2))
def giL (X : GX) (G : Gr) (H : List Nat) (t : Nat) : List Nat := if t = 0 then (List.range G.n).map X.ad else if t = 1 then H.map X.ad else (evL G (t - 2)).map X.ad
section NEV
variable {S S' : MM} {F : Nat → Nat × Nat} {i : Nat} {A : Nat → Nat} {X : GX} {G : Gr} {T T' : Tr} {H : List Nat} {W : Nat → Nat} {e : Ev}
theorem GI.lists (h : GI S F i A X G T H W) {t : Nat} (ht : t < G.m + 2) : F (LA A t) = (i, ro_a t) ∧ (giC A G t ≠ 0 → F (giD A t) = (i, ro_d t)) ∧ AL S (LA A t) (giD A t) (giC A G t) 5 (giL X G H t) := by
  unfold LA ro_a ro_d giC giD giL
  by_cases t0 : t = 0
  · rw [if_pos t0, if_pos t0, if_pos t0, if_pos t0, if_pos t0, if_pos t0]; exact (h 2).2
  · rw [if_neg t0, if_neg t0, if_neg t0, if_neg t0, if_neg t0, if_neg t0]
    by_cases t1 : t = 1
    · rw [if_pos t1, if_pos t1, if_pos t1, if_pos t1, if_pos t1, if_pos t1]; exact ⟨(h 5).2.1, (h 5).2.2.1, (h 5).2.2.2.1⟩
    · rw [if_neg t1, if_neg t1, if_neg t1, if_neg t1, if_neg t1, if_neg t1]
      obtain ⟨a1, a2, a3, a4, a5⟩ := h 12 (t - 2) (by omega)
      refine ⟨?_, ?_, a5⟩
      · rw [a3]; congr 1; omega
      · intro q
        rw [a4 q]; congr 1; omega
theorem GI.gx (h : GI S F i A X G T H W) (hF : F (X.ad G.n) = (i, 100 + G.n) ∧ F (X.pw G.n) = (i, 11) ∧ F (X.bf G.n) = (i, 12)) (hk : Keep (fun b => b = A 0 ∨ b = X.ad G.n) (msk0 S) (msk0 S')) (hgI : ∀ j, j ≠ 605 → j ≠ 609 → j ≠ 611 → mI S' j (A 0) = mI S j (A 0)) (hgR : ∀ j, 599 < j → j ≠ 610 → mR S' j (A 0) = mR S j (A 0)) (h6 : GIf S' F i A X (G.push e G.m G.ag) T' [] (wNx e) 6) (h10 : EvT S' X (G.push e G.m G.ag)) (h13 : GIf S' F i A X (G.push e G.m G.ag) T' [] (wNx e) 13) (h14 : GIf S' F i A X (G.push e G.m G.ag) T' [] (wNx e) 14) (h15 : GIf S' F i A X (G.push e G.m G.ag) T' [] (wNx e) 15) (h16 : GIf S' F i A X (G.push e G.m G.ag) T' [] (wNx e) 16) (h17 : GIf S' F i A X (G.push e G.m G.ag) T' [] (wNx e) 17) (h18 : GIf S' F i A X (G.push e G.m G.ag) T' [] (wNx e) 18) (h19 : GT (G.push e G.m G.ag) T') (he : EvIn G e) : GX8 S' F i A X (G.push e G.m G.ag) T' (wNx e) W (giD A) (giC A G) (giL X G H) := by
  have nk : ∀ {b r : Nat}, F b = (i, r) → r ≠ 1 → r ≠ 100 + G.n → ¬ (b = A 0 ∨ b = X.ad G.n) := fun hb q1 q2 z => by
    rcases z with z | z
    · exact f_ne hb (h 0).2 q1 z
    · exact f_ne hb hF.1 q2 z
  have io : ∀ {k b : Nat}, isO S k b → isO S' k b := fun q => hk.isO q
  have nn : ∀ {b : Nat}, b ∈ mL S → mN S' b = mN S b := fun q => (hk.1 _ q).2.2
  have hm := h.ok.hm
  refine ⟨fun j j2 j5 j7 j12 j20 => ?_, ⟨(hgR 601 (by decide) (by decide)).trans (h 2).1, (hgR 604 (by decide) (by decide)).trans (h 5).1, fun s hs => ?_⟩, ⟨(hgR 606 (by decide) (by decide)).trans (h 7).1, (h 7).2.1, WR.msk.1 ((WR.msk.2 (h 7).2.2).keep hk (nk (h 7).2.1 (by decide) (by omega)))⟩, fun t ht => ?_⟩
  · match j with
    | 0 => exact ⟨io (h 0).1, (h 0).2⟩
    | 1 => exact ⟨(hgR 600 (by decide) (by decide)).trans (h 1).1, io (h 1).2.1, (h 1).2.2⟩
    | 2 => exact absurd rfl j2
    | 3 =>
      obtain ⟨a1, a2, a3, a4, a5, a6⟩ := h 3
      have e1 : eR S' (A 4) = eR S (A 4) := (hk.2.1 _ a2.1 (nk a3 (by decide) (by omega))).2.2.2.2.2
      exact ⟨(hgR 602 (by decide) (by decide)).trans a1, io a2, a3, (nn a2.1).trans a4, fun s hs => by rw [e1]; exact a5 s hs, fun j hj q => by rw [e1]; exact a6 j hj q⟩
    | 4 => exact (hgI 603 (by decide) (by decide) (by decide)).trans (h 4)
    | 5 => exact absurd rfl j5
    | 6 => exact h6
    | 7 => exact absurd rfl j7
    | 8 => exact ⟨(hgR 607 (by decide) (by decide)).trans (h 8).1, (h 8).2.1, io (h 8).2.2.1, (nn (h 8).2.2.1.1).trans (h 8).2.2.2⟩
    | 9 => exact ⟨(hgR 608 (by decide) (by decide)).trans (h 9).1, (h 9).2.1, io (h 9).2.2.1, (nn (h 9).2.2.1.1).trans (h 9).2.2.2⟩
    | 10 => exact h10
    | 11 =>
      intro k hk
      rcases (show k < G.n ∨ k = G.n by have : k < G.n + 1 := hk; omega) with q | q
      · exact h 11 k q
      · rw [q]; exact hF
    | 12 => exact absurd rfl j12
    | 13 => exact h13
    | 14 => exact h14
    | 15 => exact h15
    | 16 => exact h16
    | 17 => exact h17
    | 18 => exact h18
    | 19 => exact h19
    | 20 => exact absurd rfl j20
    | 21 => exact he.ver h.ok
    | n + 22 => exact trivial
  · obtain ⟨a1, a2, -⟩ := h 12 s hs
    have ho : isO S 1 (X.aa s) := (h.ev.2.2.1 s hs).1
    have hs' : s < G.m := hs
    have e1 : mR (msk0 S') 102 (X.aa s) = mR (msk0 S) 102 (X.aa s) := (hk.2.1 _ ho.1 (nk a1 (by omega) (by omega))).2.1 102
    exact ⟨a1, Eq.trans e1 a2⟩
  · have ht' : t < G.m + 2 := ht
    obtain ⟨l1, l2, l3⟩ := h.lists ht'
    have r1 : ro_a t ≠ 1 ∧ ro_a t < 100 ∧ ro_d t ≠ 1 ∧ ro_d t < 100 := by
      unfold ro_a ro_d
      refine ⟨?_, ?_, ?_, ?_⟩ <;> (split; omega; split <;> omega)
    exact ⟨l1, l2, AL.msk.1 ((AL.msk.2 l3).keepc hk (nk l1 r1.1 (by omega)) (fun q => nk (l2 q) r1.2.2.1 (by omega)))⟩
theorem GI.ene (h : GI S F i A X G T H W) (hF : F (X.ad G.n) = (i, 100 + G.n)) {k : Nat} (hk : k < G.n) : X.ad k ≠ X.ad G.n := f_ne (h 11 k hk).1 hF (by omega)
theorem GI.odl (h : GI S F i A X G T H W) : T.od.length ≤ G.n := by
  have ok := h.gt.2.2.1
  have e3 : (((List.range G.n).filter (fun k => decide ((G.ev k).ch ≠ none))).map (· + 1)).length = T.od.length := by
    refine nodup_len ?_ ok.2.1 (fun x => ?_)
    · exact List.Pairwise.map _ (fun a b q e => q (by omega)) (List.nodup_range.filter _)
    · rw [List.mem_map, h.gt.2.2.2.1 x]
      constructor
      · rintro ⟨k, k1, rfl⟩
        rw [List.mem_filter, List.mem_range, decide_eq_true_eq] at k1
        exact ⟨k, rfl, k1.1, k1.2⟩
      · rintro ⟨k, rfl, k1, k2⟩
        exact ⟨k, by rw [List.mem_filter, List.mem_range, decide_eq_true_eq]; exact ⟨k1, k2⟩, rfl⟩
  rw [← e3, List.length_map]
  have := List.length_filter_le (fun k => decide ((G.ev k).ch ≠ none)) (List.range G.n)
  rw [List.length_range] at this
  exact this
/-- what hanging asks -/
theorem GI.hgq (h : GI S F i A X G T H W) (hn : EvN S X G e) (hi : EvIn G e) (hx : e.ix ≤ c1 G W G.n) : ∃ U V, HgQ S (A 0) (X.ad G.n) (A 1) e.ix T.od.length (T.od.map (xa A X)) U V := by
  obtain ⟨U, V, e1, a1, a2⟩ := h 18
  obtain ⟨⟨n1, n2, n3, n4, n5, n6, n7, n8, n9, n10, n11, n12, n13, n14⟩, -⟩ := hn
  have ok := h.gt.2.2.1
  have len : T.od.length ≤ 8192 := by have := h.odl; have := h.ok.hn; omega
  refine ⟨U.map (xa A X), V.map (xa A X), (h 0).1, ⟨n1, _, n2, (h.ev.2.2.1 _ hi.2.1).1⟩, n14, (h 1).1, h 17, by rw [List.length_map]; omega, by rw [e1, List.map_append], a1, a2, ?_, ?_, h.ndp, fun y hy => ?_⟩
  · rw [h.seen (fun x hx => hx), ← h.gt.c1]; exact hx
  · have := h.m2 ok.1 (fun x hx => hx)
    rw [← show fR S (xa A X 0) = _ from (h 16 0 (Or.inl rfl)).2.1] at this
    exact this
  · obtain ⟨x, x1, rfl⟩ := List.mem_map.1 hy
    obtain ⟨k, rfl, k1, -⟩ := h.nd x1
    exact h.ev.hasG k1
/-- behind hanging -/
theorem GI.hung (h : GI S F i A X G T H W) (hF : F (X.ad G.n) = (i, 100 + G.n) ∧ F (X.pw G.n) = (i, 11) ∧ F (X.bf G.n) = (i, 12)) (hn : EvN S X G e) (hi : EvIn G e) (hc : e.ch ≠ none) (hW : W = e.pa) (hg : hgP S S' (A 0) (A 1) (X.ad G.n) e.ix T.od.length (T.od.map (xa A X))) :
    ∃ T', T.ins T' (ivW G e.pa) (snW G e.pa) (lessK (G.push e G.m G.ag) G.n) (G.n + 1) e.ix ∧ GX8 S' F i A X (G.push e G.m G.ag) T' (wNx e) W (giD A) (giC A G) (giL X G H) ∧ Keep (fun b => (F b).1 = i) S S' := by
  subst hW
  have E0 : EvT S X (G.push e G.m G.ag) := evt_push h.ev hn hi (fun k hk => h.ene hF.1 hk) (fun q => absurd q hc)
  have hl : ∀ x ∈ T.od, ltA S (X.ad G.n) (xa A X x) = lessK (G.push e G.m G.ag) G.n x := fun x hx => by
    obtain ⟨k, rfl, k1, -⟩ := h.nd hx
    exact E0.ltA (Nat.lt_succ_self _) (Nat.lt_succ_of_lt k1)
  obtain ⟨T', t1, ⟨r1, r2, r3, r4, r5, r6, r7, r8, r9, rI, rR⟩, t3, t4, ⟨U, V, t5, t6, t7⟩, t8, t9⟩ := h.hang hF.1 hn.1.1 hn.2.1 hn.2.2.1 hl hg
  have gt' := h.gt.ins hi hc t1 t8 t5 t6
  have g6 := (h 0).1
  have e5 := hn.1.1
  have ge : A 0 ≠ X.ad G.n := isO_ne g6 e5 (by decide)
  have hk0 : Keep (fun b => b = A 0) (msk0 S) (msk0 S') := by
    refine ⟨fun b hb => ⟨show b ∈ mL S' by rw [r1]; exact hb, congrFun r2 b, congrFun r4 b⟩, fun b hb hp => ⟨fun j => ?_, fun j => ?_, fun j => congrFun (congrFun r3 j) b, congrFun r5 b, congrFun r6 b, congrFun r7 b⟩, r8, r9⟩
    · have hb1 : ¬ b = A 0 := hp
      show (if 507 < j ∧ j < 516 then 0 else mI S' j b) = if 507 < j ∧ j < 516 then 0 else mI S j b
      by_cases z : 507 < j ∧ j < 516
      · rw [if_pos z, if_pos z]
      · rw [if_neg z, if_neg z, rI, if_neg (fun z => hb1 z.2), if_neg (fun z => hb1 z.2), if_neg (fun z => hb1 z.2), if_neg (fun w => z (by omega))]
    · have hb1 : ¬ b = A 0 := hp
      show (if 507 < j ∧ j < 516 then none else mR S' j b) = if 507 < j ∧ j < 516 then none else mR S j b
      by_cases z : 507 < j ∧ j < 516
      · rw [if_pos z, if_pos z]
      · rw [if_neg z, if_neg z, rR j b (fun w => z ⟨w.1, by omega⟩), if_neg (fun z => hb1 z.2)]
  have gI : ∀ j, j ≠ 605 → j ≠ 609 → j ≠ 611 → mI S' j (A 0) = mI S j (A 0) := fun j q1 q2 q3 => by
    rw [rI, if_neg (fun z => q3 z.1), if_neg (fun z => q1 z.1), if_neg (fun z => q2 z.1), if_neg (fun z => ge z.2)]
  have gR : ∀ j, 599 < j → j ≠ 610 → mR S' j (A 0) = mR S j (A 0) := fun j q1 q => by
    rw [rR j _ (by omega), if_neg (fun z => q z.1)]
  have adI : ∀ k, k < G.n → ∀ j, mI S' j (X.ad k) = mI S j (X.ad k) := fun k hk j => by
    have z1 : X.ad k ≠ A 0 := isO_ne (h.ev.2.1 k hk).1 g6 (by decide)
    rw [rI, if_neg (fun z => z1 z.2), if_neg (fun z => z1 z.2), if_neg (fun z => z1 z.2), if_neg (fun z => h.ene hF.1 hk z.2)]
  have eS : mI S' 513 (X.ad G.n) = 1 := by
    rw [rI, if_neg (fun z => ge z.2.symm), if_neg (fun z => ge z.2.symm), if_neg (fun z => ge z.2.symm), if_pos ⟨rfl, rfl⟩]
  have eT : mI S' 514 (X.ad G.n) = -1 := by
    rw [rI, if_neg (fun z => ge z.2.symm), if_neg (fun z => ge z.2.symm), if_neg (fun z => ge z.2.symm), if_neg (fun z => absurd z.1 (by decide))]; exact hn.2.2.2
  have E1 : EvT S' X (G.push e G.m G.ag) := E0.keepM g6 hk0
  have hk : Keep (fun b => b = A 0 ∨ b = X.ad G.n) (msk0 S) (msk0 S') := hk0.mono (fun _ _ z => Or.inl z)
  refine ⟨T', t1, h.gx hF hk gI gR ?_ E1 ?_ ?_ ?_ t3 t4 ?_ gt' hi, t9⟩
  · show mI S' 605 (A 0) = nI (visN (G.push e G.m G.ag) T')
    rw [rI, if_neg (fun z => absurd z.1 (by decide)), if_pos ⟨rfl, rfl⟩, h 6, h.gt.vis_ins hc t5 t6, nI_1]
  · show mI S' 609 (A 0) = nI (c1 (G.push e G.m G.ag) (wNx e) (G.push e G.m G.ag).n)
    rw [rI, if_neg (fun z => absurd z.1 (by decide)), if_neg (fun z => absurd z.1 (by decide)), if_pos ⟨rfl, rfl⟩, h 13, gt_c1_ins h.gt gt' hi hc t5 t6, nI_1]
  · intro k hk hc'
    rcases (show k < G.n ∨ k = G.n by have : k < G.n + 1 := hk; omega) with q | q
    · rw [Gr.push_old q] at hc'
      show mI S' 513 (X.ad k) = nI (stV (G.push e G.m G.ag) (wNx e) (G.n + 1) k)
      rw [adI k q, h 14 k q hc', wNx, Gr.push_stV h.ok hi.2.2.1 hi.2.2.2.2.2.2.2.1 q, if_neg (fun z => hc z.1)]
    · subst q
      show mI S' 513 (X.ad G.n) = nI (stV (G.push e G.m G.ag) (wNx e) (G.n + 1) G.n)
      rw [eS, wNx, Gr.push_stVn h.ok h.gt.2.1 hi.2.2.1 hi.2.2.2.2.2.2.2.1 hc]; rfl
  · intro k hk hc'
    rw [Gr.push_stk, if_neg (fun z => hc z.1), Option.or_none]
    rcases (show k < G.n ∨ k = G.n by have : k < G.n + 1 := hk; omega) with q | q
    · rw [Gr.push_old q] at hc'
      rw [adI k q]; exact h 15 k q hc'
    · subst q
      rw [eT, Gr.stk_n h.gt.2.1 (by omega)]; rfl
  · refine ⟨U ++ [G.n + 1], V, by rw [t6]; simp, ?_, ?_⟩
    · rw [List.map_append, List.map_singleton, List.getLastD_concat, rR 610 _ (by decide), if_pos ⟨rfl, rfl⟩]; rfl
    · have e9 : seenC S' (U.map (xa A X)) = e.ix := by
        rw [seenC_cg (S' := S') (S := S) (fun y hy => by
          obtain ⟨x, x1, rfl⟩ := List.mem_map.1 hy
          obtain ⟨k, rfl, k1, -⟩ := h.nd (show x ∈ T.od by rw [t5]; exact List.mem_append_left _ x1)
          exact adI k k1 513), h.seen (fun x hx => by rw [t5]; exact List.mem_append_left _ hx)]
        exact t7
      rw [rI, if_pos ⟨rfl, rfl⟩, List.map_append, seenC_app, e9]
      show _ = nI (e.ix + ((if mI S' 513 (X.ad G.n) = 1 then 1 else 0) + 0))
      rw [if_pos eS]
end NEV
