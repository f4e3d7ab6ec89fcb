/-! ===== Behind striking ===== -/
/-- what striking the node y by e writes -/
theorem skS2_I {S : MM} {g e y ix j b : Nat} : mI (skS2 S g e y ix) j b = if j = 605 ∧ b = g ∧ mI S 514 y = -1 then mI S 605 g - 1 else if j = 514 ∧ b = y ∧ mI S 514 y = -1 then mI S 502 e else if j = 611 ∧ b = g then nI ix else if j = 609 ∧ b = g then mI S 609 g - 1 else if j = 513 ∧ b = y then 2 else mI S j b := by
  have e0 : mI (skS S g e y ix) j b = if j = 611 ∧ b = g then nI ix else if j = 609 ∧ b = g then mI S 609 g - 1 else if j = 513 ∧ b = y then 2 else mI S j b := by
    unfold skS
    rw [mI_sI]
    by_cases z : j = 611 ∧ b = g
    · rw [if_pos z, if_pos z]
    · rw [if_neg z, if_neg z, mI_sI, mI_sI, mI_sR, fgS, mI_sI, if_neg z, mI_sR]
  unfold skS2
  by_cases q : mI S 514 y = -1
  · rw [if_pos q, mI_sI, mI_sI, e0]
    simp only [q, and_true]
  · rw [if_neg q, e0]
    simp only [q, and_false, if_false]
theorem skS2_R {S : MM} {g e y ix j b : Nat} : mR (skS2 S g e y ix) j b = if j = 507 ∧ b = e then some y else if j = 610 ∧ b = g then some y else mR S j b := by
  have e0 : mR (skS S g e y ix) j b = if j = 507 ∧ b = e then some y else if j = 610 ∧ b = g then some y else mR S j b := by
    unfold skS
    rw [mR_sI, mR_sI, mR_sI, mR_sR, fgS, mR_sI, mR_sR]
  unfold skS2
  split
  · rw [mR_sI, mR_sI, e0]
  · exact e0
theorem skS2_keep {P : Nat → Prop} {S : MM} {g e y ix : Nat} (h1 : P g) (h2 : P e) (h3 : P y) : Keep P S (skS2 S g e y ix) := by
  have k0 : Keep P S (skS S g e y ix) := by
    unfold skS
    exact ((((fgS_keep S g y (ix + 1)).mono (fun b _ z => z ▸ h1)).sR h2).sI h3).sI h1 |>.sI h1
  unfold skS2
  split
  · exact (k0.sI h3).sI h1
  · exact k0
theorem skS2_o {S : MM} {g e y ix k b : Nat} (h : isO S k b) : isO (skS2 S g e y ix) k b := (skS2_keep (P := fun _ => True) trivial trivial trivial).isO h
section STK
variable {S S' : MM} {F : Nat → Nat × Nat} {i : Nat} {A : Nat → Nat} {X : GX} {G : Gr} {T : Tr} {H : List Nat} {W : Nat → Nat} {e : Ev}
/-- the node that a deletion strikes -/
def DelT (G : Gr) (T : Tr) (e : Ev) : Prop := ∃ U V, T.od = U ++ (e.tg + 1) :: V ∧ snW G e.pa (e.tg + 1) = true ∧ (U.filter (snW G e.pa)).length = e.ix
theorem GI.skt (h : GI S F i A X G T H W) (hW : W = e.pa) {A1 B1 : List Nat} {y : Nat} (q1 : T.od.map (xa A X) = A1 ++ y :: B1) (q2 : mI S 513 y = 1) (q3 : seenC S A1 = e.ix) : ∃ U x V, T.od = U ++ x :: V ∧ snW G e.pa x = true ∧ (U.filter (snW G e.pa)).length = e.ix ∧ y = xa A X x := by
  subst hW
  obtain ⟨U, V', r1, r2, r3⟩ := map_pre q1
  cases V' with
  | nil => cases r3
  | cons x V =>
    rw [List.map_cons] at r3
    injection r3 with r4 r5
    have xo : x ∈ T.od := by rw [r1]; simp
    refine ⟨U, x, V, r1, (h.sn xo).1 (by rw [← r4]; exact q2), ?_, r4⟩
    rw [← q3, r2, h.seen (fun z hz => by rw [r1]; simp [hz])]
theorem GI.struck (h : GI S F i A X G T H W) (hF : F (X.ad G.n) = (i, 100 + G.n) ∧ F (X.pw G.n) = (i, 11) ∧ F (X.bf G.n) = (i, 12)) (hn : EvN S X G e) (hi : EvIn G e) (hc : e.ch = none) (hW : W = e.pa) (hd : DelT G T e) : GX8 (skS2 S (A 0) (X.ad G.n) (X.ad e.tg) e.ix) F i A X (G.push e G.m G.ag) T (wNx e) W (giD A) (giC A G) (giL X G H) ∧ Keep (fun b => (F b).1 = i) S (skS2 S (A 0) (X.ad G.n) (X.ad e.tg) e.ix) := by
  subst hW
  obtain ⟨U, V, u1, u2, u3⟩ := hd
  have to : e.tg + 1 ∈ T.od := by rw [u1]; simp
  obtain ⟨t0, t1, tn, tc⟩ := h.nd to
  have t1 : e.tg = t0 := by omega
  subst t1
  have gt' := h.gt.del hi hc to
  have g6 := (h 0).1
  have e5 := hn.1.1
  have y5 : isO S 5 (X.ad e.tg) := (h.ev.2.1 _ tn).1
  have ge : A 0 ≠ X.ad G.n := isO_ne g6 e5 (by decide)
  have gy : A 0 ≠ X.ad e.tg := isO_ne g6 y5 (by decide)
  have ye : X.ad e.tg ≠ X.ad G.n := h.ene hF.1 tn
  have st1 : stV G e.pa G.n e.tg = 1 := of_decide_eq_true u2
  have k9 : Keep (fun b => (F b).1 = i) S (skS2 S (A 0) (X.ad G.n) (X.ad e.tg) e.ix) := skS2_keep (F1 (h 0).2) (F1 hF.1) (F1 (h 11 _ tn).1)
  have hk : Keep (fun b => b = A 0 ∨ b = X.ad G.n) (msk0 S) (msk0 (skS2 S (A 0) (X.ad G.n) (X.ad e.tg) e.ix)) := by
    have kk := skS2_keep (P := fun b => b = A 0 ∨ b = X.ad G.n ∨ b = X.ad e.tg) (S := S) (g := A 0) (e := X.ad G.n) (y := X.ad e.tg) (ix := e.ix) (Or.inl rfl) (Or.inr (Or.inl rfl)) (Or.inr (Or.inr rfl))
    have ka := skS2_keep (P := fun _ => True) (S := S) (g := A 0) (e := X.ad G.n) (y := X.ad e.tg) (ix := e.ix) trivial trivial trivial
    have kr : ∀ b, eI (skS2 S (A 0) (X.ad G.n) (X.ad e.tg) e.ix) b = eI S b ∧ eJ (skS2 S (A 0) (X.ad G.n) (X.ad e.tg) e.ix) b = eJ S b ∧ eR (skS2 S (A 0) (X.ad G.n) (X.ad e.tg) e.ix) b = eR S b ∧ ∀ j, mJ (skS2 S (A 0) (X.ad G.n) (X.ad e.tg) e.ix) j b = mJ S j b := by
      intro b
      unfold skS2
      split
      · exact ⟨rfl, rfl, rfl, fun _ => rfl⟩
      · exact ⟨rfl, rfl, rfl, fun _ => rfl⟩
    refine ⟨fun b hb => ka.1 b hb, fun b hb hp => ⟨fun j => ?_, fun j => ?_, fun j => (kr b).2.2.2 j, (kr b).1, (kr b).2.1, (kr b).2.2.1⟩, kk.2.2.1, kk.2.2.2⟩
    · have hb1 : ¬ b = A 0 := fun z => hp (Or.inl z)
      show (if 507 < j ∧ j < 516 then 0 else mI (skS2 S (A 0) (X.ad G.n) (X.ad e.tg) e.ix) j b) = if 507 < j ∧ j < 516 then 0 else mI S j b
      by_cases z : 507 < j ∧ j < 516
      · rw [if_pos z, if_pos z]
      · rw [if_neg z, if_neg z, skS2_I, if_neg (fun w => hb1 w.2.1), if_neg (fun w => z (by omega)), if_neg (fun w => hb1 w.2), if_neg (fun w => hb1 w.2), if_neg (fun w => z (by omega))]
    · have hb1 : ¬ b = A 0 := fun z => hp (Or.inl z)
      have hb2 : ¬ b = X.ad G.n := fun z => hp (Or.inr z)
      show (if 507 < j ∧ j < 516 then none else mR (skS2 S (A 0) (X.ad G.n) (X.ad e.tg) e.ix) j b) = if 507 < j ∧ j < 516 then none else mR S j b
      rw [skS2_R, if_neg (fun w : j = 507 ∧ b = X.ad G.n => hb2 w.2), if_neg (fun w : j = 610 ∧ b = A 0 => hb1 w.2)]
  have gI : ∀ j, j ≠ 605 → j ≠ 609 → j ≠ 611 → mI (skS2 S (A 0) (X.ad G.n) (X.ad e.tg) e.ix) j (A 0) = mI S j (A 0) := fun j q1 q2 q3 => by
    rw [skS2_I, if_neg (fun z => q1 z.1), if_neg (fun z => gy z.2.1), if_neg (fun z => q3 z.1), if_neg (fun z => q2 z.1), if_neg (fun z => gy z.2)]
  have gR : ∀ j, 599 < j → j ≠ 610 → mR (skS2 S (A 0) (X.ad G.n) (X.ad e.tg) e.ix) j (A 0) = mR S j (A 0) := fun j q1 q => by
    rw [skS2_R, if_neg (fun z => ge z.2), if_neg (fun z => q z.1)]
  have adI : ∀ k, k < G.n → k ≠ e.tg → ∀ j, mI (skS2 S (A 0) (X.ad G.n) (X.ad e.tg) e.ix) j (X.ad k) = mI S j (X.ad k) := fun k hk hne j => by
    have z1 : X.ad k ≠ A 0 := isO_ne (h.ev.2.1 k hk).1 g6 (by decide)
    have z2 : X.ad k ≠ X.ad e.tg := fun z => hne (h.ev.2.2.2 k e.tg hk tn z)
    rw [skS2_I, if_neg (fun z => z1 z.2.1), if_neg (fun z => z2 z.2.1), if_neg (fun z => z1 z.2), if_neg (fun z => z1 z.2), if_neg (fun z => z2 z.2)]
  have yS : mI (skS2 S (A 0) (X.ad G.n) (X.ad e.tg) e.ix) 513 (X.ad e.tg) = 2 := by
    rw [skS2_I, if_neg (fun z => absurd z.1 (by decide)), if_neg (fun z => absurd z.1 (by decide)), if_neg (fun z => absurd z.1 (by decide)), if_neg (fun z => absurd z.1 (by decide)), if_pos ⟨rfl, rfl⟩]
  have sK : mI S 514 (X.ad e.tg) = -1 ↔ stk G e.tg = none := by
    rw [h 15 _ tn tc]
    cases q : stk G e.tg with
    | none => exact ⟨fun _ => rfl, fun _ => rfl⟩
    | some j =>
      have := (Gr.stk_lt h.gt.2.1 q).1
      have := h.ok.hn
      refine ⟨fun z => ?_, fun z => by cases z⟩
      have z : nI j = -1 := z
      have w := nI_pos (n := j) (by omega)
      rw [z] at w
      exact absurd (by decide) w
  have E1 : EvT (skS2 S (A 0) (X.ad G.n) (X.ad e.tg) e.ix) X (G.push e G.m G.ag) := by
    have hv : EvT (skS2 S (A 0) (X.ad G.n) (X.ad e.tg) e.ix) X G := EvT.msk.1 ((EvT.msk.2 h.ev).keep hk (fun k q => ⟨fun z => z.elim (fun w => isO_ne (h.ev.2.1 k q).1 g6 (by decide) w) (fun w => h.ene hF.1 q w), fun z => z.elim (fun w => f_ne (h 11 k q).2.1 (h 0).2 (by decide) w) (fun w => f_ne (h 11 k q).2.1 hF.1 (by omega) w), fun z => z.elim (fun w => f_ne (h 11 k q).2.2 (h 0).2 (by decide) w) (fun w => f_ne (h 11 k q).2.2 hF.1 (by omega) w)⟩) (fun s q => fun z => by
      have hm := h.ok.hm
      exact z.elim (fun w => f_ne (h 12 s q).1 (h 0).2 (by omega) w) (fun w => f_ne (h 12 s q).1 hF.1 (by omega) w)))
    have eI' : ∀ j, j ≠ 605 → j ≠ 609 → j ≠ 611 → mI (skS2 S (A 0) (X.ad G.n) (X.ad e.tg) e.ix) j (X.ad G.n) = mI S j (X.ad G.n) := fun j q1 q2 q3 => by
      rw [skS2_I, if_neg (fun z => q1 z.1), if_neg (fun z => ye z.2.1.symm), if_neg (fun z => q3 z.1), if_neg (fun z => q2 z.1), if_neg (fun z => ye z.2.symm)]
    have eR' : ∀ j, j ≠ 507 → mR (skS2 S (A 0) (X.ad G.n) (X.ad e.tg) e.ix) j (X.ad G.n) = mR S j (X.ad G.n) := fun j q => by
      rw [skS2_R, if_neg (fun z => q z.1), if_neg (fun z => ge z.2.symm)]
    obtain ⟨⟨n1, n2, n3, n4, n5, n6, n7, n8, n9, n10, n11, n12, n13, n14⟩, n15, n16, n17⟩ := hn
    have np : ∀ {b r : Nat}, F b = (i, r) → r ≠ 1 → r ≠ 100 + G.n → ¬ (b = A 0 ∨ b = X.ad G.n) := fun hb q1 q2 z => z.elim (fun w => f_ne hb (h 0).2 q1 w) (fun w => f_ne hb hF.1 q2 w)
    have p1 := hk.2.1 _ n6.1 (np hF.2.1 (by decide) (by omega))
    have p2 := hk.2.1 _ n10.1 (np hF.2.2 (by decide) (by omega))
    have q1 : eR (skS2 S (A 0) (X.ad G.n) (X.ad e.tg) e.ix) (X.pw G.n) = eR S (X.pw G.n) := p1.2.2.2.2.2
    have q2 : eI (skS2 S (A 0) (X.ad G.n) (X.ad e.tg) e.ix) (X.bf G.n) = eI S (X.bf G.n) := p2.2.2.2.1
    refine evt_push hv ⟨⟨skS2_o n1, (eR' _ (by decide)).trans n2, (eI' _ (by decide) (by decide) (by decide)).trans n3, (eI' _ (by decide) (by decide) (by decide)).trans n4, (eR' _ (by decide)).trans n5, skS2_o n6, (hk.1 _ n6.1).2.2.trans n7, fun j hj => by rw [q1]; exact n8 j hj, (eR' _ (by decide)).trans n9, skS2_o n10, (hk.1 _ n10.1).2.2.trans n11, fun s hs hne => by rw [q2]; exact n12 s hs hne, (eI' _ (by decide) (by decide) (by decide)).trans n13, (eI' _ (by decide) (by decide) (by decide)).trans n14⟩, (eR' _ (by decide)).trans n15, (eR' _ (by decide)).trans n16, (eI' _ (by decide) (by decide) (by decide)).trans n17⟩ hi (fun k q => h.ene hF.1 q) (fun _ => ?_)
    rw [skS2_R, if_pos ⟨rfl, rfl⟩]
  have gy609 : c1 G e.pa G.n ≤ 8192 := by have := c1_le G e.pa G.n; have := h.ok.hn; omega
  have gv : visN G T ≤ 8192 := by
    have := h.odl
    have := h.ok.hn
    have := List.length_filter_le (vis G) T.od
    rw [visN]; omega
  have cd := gt_c1_del h.gt gt' hi hc to u2
  have vd := h.gt.vis_del hc to (e := e)
  refine ⟨h.gx hF hk gI gR ?_ E1 ?_ ?_ ?_ ?_ ?_ ?_ gt' hi, k9⟩
  · show mI (skS2 S (A 0) (X.ad G.n) (X.ad e.tg) e.ix) 605 (A 0) = nI (visN (G.push e G.m G.ag) T)
    rw [skS2_I]
    by_cases q : mI S 514 (X.ad e.tg) = -1
    · rw [if_pos ⟨rfl, rfl, q⟩, h 6]
      rw [if_pos (sK.1 q)] at vd
      rw [← vd]
      exact pk_sub (a := visN (G.push e G.m G.ag) T + 1) (b := 1) (by omega)
    · rw [if_neg (fun z => q z.2.2), if_neg (fun z => absurd z.1 (by decide)), if_neg (fun z => absurd z.1 (by decide)), if_neg (fun z => absurd z.1 (by decide)), if_neg (fun z => absurd z.1 (by decide)), h 6]
      rw [if_neg (fun z => q (sK.2 z))] at vd
      rw [← vd]; rfl
  · show mI (skS2 S (A 0) (X.ad G.n) (X.ad e.tg) e.ix) 609 (A 0) = nI (c1 (G.push e G.m G.ag) (wNx e) (G.push e G.m G.ag).n)
    rw [skS2_I, if_neg (fun z => absurd z.1 (by decide)), if_neg (fun z => absurd z.1 (by decide)), if_neg (fun z => absurd z.1 (by decide)), if_pos ⟨rfl, rfl⟩, h 13, ← cd]
    exact pk_sub (a := c1 (G.push e G.m G.ag) (wNx e) (G.push e G.m G.ag).n + 1) (b := 1) (by omega)
  · intro k hk' hc'
    rcases (show k < G.n ∨ k = G.n by have : k < G.n + 1 := hk'; omega) with q | q
    · rw [Gr.push_old q] at hc'
      show mI (skS2 S (A 0) (X.ad G.n) (X.ad e.tg) e.ix) 513 (X.ad k) = nI (stV (G.push e G.m G.ag) (wNx e) (G.n + 1) k)
      rw [wNx, Gr.push_stV h.ok hi.2.2.1 hi.2.2.2.2.2.2.2.1 q]
      by_cases w : k = e.tg
      · subst w
        rw [yS, if_pos ⟨hc, rfl, st1⟩]; rfl
      · rw [adI k q w, h 14 k q hc', if_neg (fun z => w z.2.1.symm)]
    · subst q; rw [Gr.push_new] at hc'; exact absurd hc hc'
  · intro k hk' hc'
    rcases (show k < G.n ∨ k = G.n by have : k < G.n + 1 := hk'; omega) with q | q
    · rw [Gr.push_old q] at hc'
      rw [Gr.push_stk]
      by_cases w : k = e.tg
      · subst w
        rw [if_pos ⟨hc, rfl⟩, skS2_I, if_neg (fun z => absurd z.1 (by decide))]
        by_cases v : mI S 514 (X.ad e.tg) = -1
        · rw [if_pos ⟨rfl, rfl, v⟩, sK.1 v, hn.1.2.2.2.1]; rfl
        · rw [if_neg (fun z => v z.2.2), if_neg (fun z => absurd z.1 (by decide)), if_neg (fun z => absurd z.1 (by decide)), if_neg (fun z => absurd z.1 (by decide)), h 15 _ tn tc]
          cases u : stk G e.tg with
          | none => exact absurd (sK.2 u) v
          | some j => rfl
      · rw [adI k q w, h 15 k q hc', if_neg (fun z => w z.2.symm), Option.or_none]
    · subst q; rw [Gr.push_new] at hc'; exact absurd hc hc'
  · intro x hx
    obtain ⟨a1, a2, a3⟩ := h 16 x hx
    have mr : ∀ j b, 507 < j → j < 600 → mR (skS2 S (A 0) (X.ad G.n) (X.ad e.tg) e.ix) j b = mR S j b := fun j b q1 q2 => by
      rw [skS2_R, if_neg (fun z => by omega), if_neg (fun z => by omega)]
    exact ⟨(mr _ _ (by decide) (by decide)).trans a1, (mr _ _ (by decide) (by decide)).trans a2, fun q => (mr _ _ (by decide) (by decide)).trans (a3 q)⟩
  · exact ChP.cg (h 17) (fun b q => skS2_o q) (fun b => by rw [skS2_R, if_neg (fun z => absurd z.1 (by decide)), if_neg (fun z => absurd z.1 (by decide))]) (fun b => by rw [skS2_R, if_neg (fun z => absurd z.1 (by decide)), if_neg (fun z => absurd z.1 (by decide))])
  · refine ⟨U ++ [e.tg + 1], V, by rw [u1]; simp, ?_, ?_⟩
    · rw [List.map_append, List.map_singleton, List.getLastD_concat, skS2_R, if_neg (fun z => absurd z.1 (by decide)), if_pos ⟨rfl, rfl⟩]; rfl
    · have e9 : seenC (skS2 S (A 0) (X.ad G.n) (X.ad e.tg) e.ix) (U.map (xa A X)) = e.ix := by
        rw [seenC_cg (S' := skS2 S (A 0) (X.ad G.n) (X.ad e.tg) e.ix) (S := S) (fun y hy => by
          obtain ⟨x, x1, rfl⟩ := List.mem_map.1 hy
          obtain ⟨k, rfl, k1, -⟩ := h.nd (show x ∈ T.od by rw [u1]; exact List.mem_append_left _ x1)
          refine adI k k1 (fun z => ?_) 513
          subst z
          have nd := h.gt.2.2.1.2.1
          rw [u1, List.nodup_append] at nd
          exact nd.2.2 _ x1 _ List.mem_cons_self rfl), h.seen (fun x hx => by rw [u1]; exact List.mem_append_left _ hx)]
        exact u3
      rw [skS2_I, if_neg (fun z => absurd z.1 (by decide)), if_neg (fun z => absurd z.1 (by decide)), if_pos ⟨rfl, rfl⟩, List.map_append, seenC_app, e9]
      show _ = nI (e.ix + ((if mI (skS2 S (A 0) (X.ad G.n) (X.ad e.tg) e.ix) 513 (X.ad e.tg) = 1 then 1 else 0) + 0))
      rw [yS]; rfl
end STK
