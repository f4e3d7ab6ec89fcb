/-! ===== A graph whose lists are being filled ===== -/
def LA (A : Nat → Nat) (t : Nat) : Nat := if t = 0 then A 2 else if t = 1 then A 5 else A (20 + 2 * (t - 2))
def ro_a (t : Nat) : Nat := if t = 0 then 3 else if t = 1 then 6 else 38 + t
def ro_d (t : Nat) : Nat := if t = 0 then 4 else if t = 1 then 7 else 58 + t
theorem roa_inj {t u : Nat} (h : ro_a t = ro_a u) (ht : t < 18) (hu : u < 18) : t = u := by
  unfold ro_a at h
  split at h <;> split at h <;> (try split at h) <;> (try split at h) <;> omega
theorem rod_inj {t u : Nat} (h : ro_d t = ro_d u) (ht : t < 18) (hu : u < 18) : t = u := by
  unfold ro_d at h
  split at h <;> split at h <;> (try split at h) <;> (try split at h) <;> omega
theorem roa_rod {t u : Nat} (ht : t < 18) (hu : u < 18) : ro_a t ≠ ro_d u := by
  unfold ro_a ro_d
  split <;> split <;> (try split) <;> (try split) <;> omega
/-- roles that are no list's -/
def noL (r : Nat) : Prop := ∀ t, t < 18 → r ≠ ro_a t ∧ r ≠ ro_d t
theorem noL_of {r : Nat} (h : r ≠ 3 ∧ r ≠ 4 ∧ r ≠ 6 ∧ r ≠ 7 ∧ (r < 40 ∨ (55 < r ∧ r < 60) ∨ 75 < r)) : noL r := fun t ht => by
  unfold ro_a ro_d
  refine ⟨?_, ?_⟩ <;> (split; omega; split <;> omega)
def updL (L : Nat → List Nat) (a : Nat) (v : List Nat) : Nat → List Nat := fun k => if k = a then v else L k
def GX8 (S : MM) (F : Nat → Nat × Nat) (i : Nat) (A : Nat → Nat) (X : GX) (G : Gr) (T : Tr) (W Wr : Nat → Nat) (D c : Nat → Nat) (L : Nat → List Nat) : Prop :=
  (∀ j, j ≠ 2 → j ≠ 5 → j ≠ 7 → j ≠ 12 → j ≠ 20 → GIf S F i A X G T [] W j) ∧ (mR S 601 (A 0) = some (A 2) ∧ mR S 604 (A 0) = some (A 5) ∧ ∀ s, s < G.m → F (X.aa s) = (i, 20 + s) ∧ mR S 102 (X.aa s) = some (A (20 + 2 * s))) ∧ (mR S 606 (A 0) = some (A 8) ∧ F (A 8) = (i, 8) ∧ WR S (A 8) Wr) ∧ ∀ t, t < G.m + 2 → F (LA A t) = (i, ro_a t) ∧ (c t ≠ 0 → F (D t) = (i, ro_d t)) ∧ AL S (LA A t) (D t) (c t) 5 (L t)
section GXS
variable {S S' : MM} {F : Nat → Nat × Nat} {i : Nat} {A : Nat → Nat} {X : GX} {G : Gr} {T : Tr} {W Wr : Nat → Nat} {D c : Nat → Nat} {L : Nat → List Nat}
theorem f_ne {a b r s : Nat} (h1 : F a = (i, r)) (h2 : F b = (i, s)) (h : r ≠ s) : a ≠ b := fun e => by
  subst e
  rw [h1] at h2
  injection h2 with q1 q2
  exact h q2
theorem GX8.add (h : GX8 S F i A X G T W Wr D c L) (hF : FO S F) (hi : i ≠ 0) (hm : G.m ≤ 16) {t0 d' c' : Nat} {L' : List Nat} (ht : t0 < G.m + 2) (hk : Keep (AP S (LA A t0) (D t0) (c t0)) S S') (hA : AL S' (LA A t0) d' c' 5 L') (hc : c' ≠ 0) (hd : (d' = D t0 ∧ c t0 ≠ 0) ∨ d' ∉ mL S) :
    ∃ F', GX8 S' F' i A X G T W Wr (updN D t0 d') (updN c t0 c') (updL L t0 L') ∧ FO S' F' ∧ (∀ b, b ∈ mL S → F' b = F b) ∧ Keep (fun b => (F b).1 = i) S S' := by
  obtain ⟨hj, ⟨p1, p2, p3⟩, ⟨w1, w2, w3⟩, hl⟩ := h
  obtain ⟨l1, l2, l3⟩ := hl t0 ht
  have nP : ∀ {b r : Nat}, F b = (i, r) → r ≠ ro_a t0 → r ≠ ro_d t0 → ¬ AP S (LA A t0) (D t0) (c t0) b := fun hb r1 r2 z => by
    rcases z with z | z
    · exact f_ne hb l1 r1 z
    · exact f_ne hb (l2 z.2.1) r2 z.1
  have hf : ∀ b, b ∈ mL S → (fun b => if b = d' then (i, ro_d t0) else F b) b = F b := fun b hb => by
    by_cases z : b = d'
    · show (if b = d' then (i, ro_d t0) else F b) = F b
      rw [if_pos z]
      rcases hd with w | w
      · rw [z, w.1, l2 w.2]
      · exact absurd (z ▸ hb) w
    · exact if_neg z
  have inL : ∀ {b r : Nat}, F b = (i, r) → b ∈ mL S := fun hb => hF.iso hb hi
  have fF : ∀ {b r : Nat}, F b = (i, r) → (fun b => if b = d' then (i, ro_d t0) else F b) b = (i, r) := fun hb => (hf _ (inL hb)).trans hb
  have nL : ∀ {b r : Nat}, F b = (i, r) → noL r → ¬ AP S (LA A t0) (D t0) (c t0) b := fun hb hr => nP hb (hr t0 (by omega)).1 (hr t0 (by omega)).2
  have kR : ∀ {b r : Nat}, F b = (i, r) → noL r → ∀ j, mR S' j b = mR S j b := fun hb hr => (hk.2.1 _ (inL hb) (nL hb hr)).2.1
  have kI : ∀ {b r : Nat}, F b = (i, r) → noL r → ∀ j, mI S' j b = mI S j b := fun hb hr => (hk.2.1 _ (inL hb) (nL hb hr)).1
  have h0 : isO S 6 (A 0) ∧ F (A 0) = (i, 1) := hj 0 (by decide) (by decide) (by decide) (by decide) (by decide)
  have h1 : mR S 600 (A 0) = some (A 1) ∧ isO S 5 (A 1) ∧ F (A 1) = (i, 2) := hj 1 (by decide) (by decide) (by decide) (by decide) (by decide)
  have h10 : EvT S X G := hj 10 (by decide) (by decide) (by decide) (by decide) (by decide)
  have h11 : ∀ k, k < G.n → F (X.ad k) = (i, 100 + k) ∧ F (X.pw k) = (i, 11) ∧ F (X.bf k) = (i, 12) := hj 11 (by decide) (by decide) (by decide) (by decide) (by decide)
  have h19 : GT G T := hj 19 (by decide) (by decide) (by decide) (by decide) (by decide)
  have n1 : noL 1 := noL_of (by decide)
  have n2 : noL 2 := noL_of (by decide)
  have nk : ∀ k, noL (100 + k) := fun k => noL_of (by omega)
  have gx : ∀ x, x = 0 ∨ x ∈ T.od → ∃ r, F (xa A X x) = (i, r) ∧ noL r := fun x hx => by
    rcases hx with z | z
    · subst z; exact ⟨_, h1.2.2, n2⟩
    · obtain ⟨k, rfl, k1, -⟩ := (h19.2.2.2.1 x).1 z
      exact ⟨_, (h11 k k1).1, nk k⟩
  refine ⟨fun b => if b = d' then (i, ro_d t0) else F b, ⟨fun j j2 j5 j7 j12 j20 => ?_, ⟨(kR h0.2 n1 601).trans p1, (kR h0.2 n1 604).trans p2, fun s hs => ⟨fF (p3 s hs).1, (kR (p3 s hs).1 (noL_of (by omega)) 102).trans (p3 s hs).2⟩⟩, ⟨(kR h0.2 n1 606).trans w1, fF w2, w3.keep hk (nL w2 (noL_of (by decide)))⟩, fun t hu => ?_⟩, fun b hb => ?_, hf, hk.mono (fun b _ z => ?_)⟩
  · have hq := hj j j2 j5 j7 j12 j20
    match j with
    | 0 => exact ⟨hk.isO h0.1, fF h0.2⟩
    | 1 => exact ⟨(kR h0.2 n1 600).trans h1.1, hk.isO h1.2.1, fF h1.2.2⟩
    | 2 => exact absurd rfl j2
    | 3 =>
      obtain ⟨a1, a2, a3, a4, a5, a6⟩ := hq
      have e1 := (hk.2.1 _ a2.1 (nL a3 (noL_of (by decide)))).2.2.2.2.2
      exact ⟨(kR h0.2 n1 602).trans a1, hk.isO a2, fF a3, (hk.1 _ a2.1).2.2.trans a4, fun s hs => by rw [e1]; exact a5 s hs, fun j hj q => by rw [e1]; exact a6 j hj q⟩
    | 4 => exact (kI h0.2 n1 603).trans hq
    | 5 => exact absurd rfl j5
    | 6 => exact (kI h0.2 n1 605).trans hq
    | 7 => exact absurd rfl j7
    | 8 => exact ⟨(kR h0.2 n1 607).trans hq.1, fF hq.2.1, hk.isO hq.2.2.1, (hk.1 _ hq.2.2.1.1).2.2.trans hq.2.2.2⟩
    | 9 => exact ⟨(kR h0.2 n1 608).trans hq.1, fF hq.2.1, hk.isO hq.2.2.1, (hk.1 _ hq.2.2.1.1).2.2.trans hq.2.2.2⟩
    | 10 => exact h10.keep hk (fun k q => ⟨nL (h11 k q).1 (nk k), nL (h11 k q).2.1 (noL_of (by decide)), nL (h11 k q).2.2 (noL_of (by decide))⟩) (fun s q => nL (p3 s q).1 (noL_of (by omega)))
    | 11 => exact fun k q => ⟨fF (h11 k q).1, fF (h11 k q).2.1, fF (h11 k q).2.2⟩
    | 12 => exact absurd rfl j12
    | 13 => exact (kI h0.2 n1 609).trans hq
    | 14 => exact fun k q c => (kI (h11 k q).1 (nk k) 513).trans (hq k q c)
    | 15 => exact fun k q c => (kI (h11 k q).1 (nk k) 514).trans (hq k q c)
    | 16 =>
      intro x hx
      obtain ⟨r, hr, r1⟩ := gx x hx
      obtain ⟨a1, a2, a3⟩ := hq x hx
      exact ⟨(kR hr r1 508).trans a1, (kR hr r1 509).trans a2, fun q => (kR hr r1 510).trans (a3 q)⟩
    | 17 =>
      refine ChP.keep hq hk (nL h1.2.2 n2) (fun y hy => ?_)
      obtain ⟨x, x1, rfl⟩ := List.mem_map.1 hy
      obtain ⟨r, hr, r1⟩ := gx x (Or.inr x1)
      exact nL hr r1
    | 18 =>
      obtain ⟨U, V, e, a1, a2⟩ := hq
      refine ⟨U, V, e, (kR h0.2 n1 610).trans a1, ?_⟩
      have e9 : seenC S' (U.map (xa A X)) = seenC S (U.map (xa A X)) := seenC_cg (fun y hy => by
        obtain ⟨x, x1, rfl⟩ := List.mem_map.1 hy
        obtain ⟨r, hr, r1⟩ := gx x (Or.inr (by rw [e]; exact List.mem_append_left _ x1))
        exact kI hr r1 513)
      rw [kI h0.2 n1 611, a2, e9]
    | 19 => exact h19
    | 20 => exact absurd rfl j20
    | 21 => exact hq
    | n + 22 => exact trivial
  · obtain ⟨m1, m2, m3⟩ := hl t hu
    by_cases z : t = t0
    · subst z
      rw [updN_s, updN_s, show updL L t L' t = L' from if_pos rfl]
      exact ⟨fF m1, fun _ => if_pos rfl, hA⟩
    · rw [updN_o z, updN_o z, show updL L t0 L' t = L t from if_neg z]
      have z1 : ro_a t ≠ ro_a t0 := fun e => z (roa_inj e (by omega) (by omega))
      have z2 : ro_a t ≠ ro_d t0 := roa_rod (by omega) (by omega)
      have z3 : ro_d t ≠ ro_a t0 := fun e => roa_rod (by omega) (by omega) e.symm
      have z4 : ro_d t ≠ ro_d t0 := fun e => z (rod_inj e (by omega) (by omega))
      exact ⟨fF m1, fun q => fF (m2 q), m3.keepc hk (nP m1 z1 z2) (fun q => nP (m2 q) z3 z4)⟩
  · by_cases z : b = d'
    · rw [z]; exact (hA.row hc).1.1
    · have hb : (if b = d' then (i, ro_d t0) else F b) ≠ (0, 0) := hb
      rw [if_neg z] at hb
      exact (hk.1 b (hF b hb)).1
  · rcases z with z | z
    · exact F1 (z ▸ l1)
    · exact F1 (z.1 ▸ l2 z.2.1)
/-- the shown row is written -/
theorem GX8.row (h : GX8 S F i A X G T W Wr D c L) {f : Nat → Int32} {Wr' : Nat → Nat} (hf : ∀ s, s < 16 → f s = nI (Wr' s) ∧ Wr' s ≤ 100000) : GX8 (rI S (A 8) f) F i A X G T W Wr' D c L := by
  obtain ⟨hj, hp, ⟨w1, w2, w3⟩, hl⟩ := h
  have h11 : ∀ k, k < G.n → F (X.ad k) = (i, 100 + k) ∧ F (X.pw k) = (i, 11) ∧ F (X.bf k) = (i, 12) := hj 11 (by decide) (by decide) (by decide) (by decide) (by decide)
  refine ⟨fun j j2 j5 j7 j12 j20 => ?_, hp, ⟨w1, w2, w3.1, w3.2.1, fun s hs => ?_⟩, fun t ht => ⟨(hl t ht).1, (hl t ht).2.1, (hl t ht).2.2.row17 w3.1⟩⟩
  · have hq := hj j j2 j5 j7 j12 j20
    match j with
    | 0 => exact hq
    | 1 => exact hq
    | 2 => exact absurd rfl j2
    | 3 => exact hq
    | 4 => exact hq
    | 5 => exact absurd rfl j5
    | 6 => exact hq
    | 7 => exact absurd rfl j7
    | 8 => exact hq
    | 9 => exact hq
    | 10 => exact EvT.row hq w3.1 (fun k hk => f_ne (h11 k hk).2.2 w2 (by decide))
    | 11 => exact hq
    | 12 => exact absurd rfl j12
    | 13 => exact hq
    | 14 => exact hq
    | 15 => exact hq
    | 16 => exact hq
    | 17 => exact ChP.cg hq (fun _ q => isO_rI q) (fun _ => rfl) (fun _ => rfl)
    | 18 =>
      obtain ⟨U, V, e, a1, a2⟩ := hq
      refine ⟨U, V, e, a1, ?_⟩
      rw [seenC_cg (S' := rI S (A 8) f) (S := S) (fun _ _ => rfl)]
      exact a2
    | 19 => exact hq
    | 20 => exact absurd rfl j20
    | 21 => exact hq
    | n + 22 => exact trivial
  · have e8 : eI (rI S (A 8) f) (A 8) = f := va_up_self _ _ _
    rw [e8]; exact hf s hs
/-- the addresses with the lists' rows -/
def gxA (A D c : Nat → Nat) : Nat → Nat := fun j => if j = 3 then D 0 else if j = 6 then D 1 else if j = 7 then c 1 else if 20 ≤ j ∧ j % 2 = 1 then D (2 + (j - 21) / 2) else A j
theorem gxA_o {A D c : Nat → Nat} {j : Nat} (h : j < 20) (h3 : j ≠ 3) (h6 : j ≠ 6) (h7 : j ≠ 7) : gxA A D c j = A j := by
  rw [gxA, if_neg h3, if_neg h6, if_neg h7, if_neg (by omega)]
theorem GX8.gi (h : GX8 S F i A X G T W W D c L) {H : List Nat} (h0 : c 0 = capF G.n) (hL0 : L 0 = (List.range G.n).map X.ad) (h1 : c 1 = 0 ∨ c 1 = 10 ∨ c 1 = 15 ∨ c 1 = 22) (hL1 : L 1 = H.map X.ad) (h2 : ∀ s, s < G.m → c (2 + s) = capF (G.cn s) ∧ L (2 + s) = (evL G s).map X.ad) (hH : HdS G H) : GI S F i (gxA A D c) X G T H W := by
  obtain ⟨hj, ⟨p1, p2, p3⟩, ⟨w1, w2, w3⟩, hl⟩ := h
  have e0 : gxA A D c 0 = A 0 := gxA_o (by decide) (by decide) (by decide) (by decide)
  have e1 : gxA A D c 1 = A 1 := gxA_o (by decide) (by decide) (by decide) (by decide)
  have e2 : gxA A D c 2 = A 2 := gxA_o (by decide) (by decide) (by decide) (by decide)
  have e4 : gxA A D c 4 = A 4 := gxA_o (by decide) (by decide) (by decide) (by decide)
  have e5 : gxA A D c 5 = A 5 := gxA_o (by decide) (by decide) (by decide) (by decide)
  have e8 : gxA A D c 8 = A 8 := gxA_o (by decide) (by decide) (by decide) (by decide)
  have e9 : gxA A D c 9 = A 9 := gxA_o (by decide) (by decide) (by decide) (by decide)
  have e10 : gxA A D c 10 = A 10 := gxA_o (by decide) (by decide) (by decide) (by decide)
  have ex : xa (gxA A D c) X = xa A X := xa_cg e1 rfl
  intro j
  match j with
  | 0 => exact (by rw [GIf, e0]; exact hj 0 (by decide) (by decide) (by decide) (by decide) (by decide))
  | 1 => exact (by rw [GIf, e0, e1]; exact hj 1 (by decide) (by decide) (by decide) (by decide) (by decide))
  | 2 =>
    obtain ⟨l1, l2, l3⟩ := hl 0 (by omega)
    rw [h0] at l2 l3
    rw [hL0] at l3
    show mR S 601 (gxA A D c 0) = some (gxA A D c 2) ∧ F (gxA A D c 2) = (i, 3) ∧ (capF G.n ≠ 0 → F (gxA A D c 3) = (i, 4)) ∧ AL S (gxA A D c 2) (gxA A D c 3) (capF G.n) 5 ((List.range G.n).map X.ad)
    rw [e0, e2]
    exact ⟨p1, l1, l2, l3⟩
  | 3 => exact (by rw [GIf, e0, e4]; exact hj 3 (by decide) (by decide) (by decide) (by decide) (by decide))
  | 4 => exact (by rw [GIf, e0]; exact hj 4 (by decide) (by decide) (by decide) (by decide) (by decide))
  | 5 =>
    obtain ⟨l1, l2, l3⟩ := hl 1 (by omega)
    rw [hL1] at l3
    show mR S 604 (gxA A D c 0) = some (gxA A D c 5) ∧ F (gxA A D c 5) = (i, 6) ∧ (gxA A D c 7 ≠ 0 → F (gxA A D c 6) = (i, 7)) ∧ AL S (gxA A D c 5) (gxA A D c 6) (gxA A D c 7) 5 (H.map X.ad) ∧ (gxA A D c 7 = 0 ∨ gxA A D c 7 = 10 ∨ gxA A D c 7 = 15 ∨ gxA A D c 7 = 22)
    rw [e0, e5]
    exact ⟨p2, l1, l2, l3, h1⟩
  | 6 => exact (by rw [GIf, e0]; exact hj 6 (by decide) (by decide) (by decide) (by decide) (by decide))
  | 7 => exact (by rw [GIf, e0, e8]; exact ⟨w1, w2, w3⟩)
  | 8 => exact (by rw [GIf, e0, e9]; exact hj 8 (by decide) (by decide) (by decide) (by decide) (by decide))
  | 9 => exact (by rw [GIf, e0, e10]; exact hj 9 (by decide) (by decide) (by decide) (by decide) (by decide))
  | 10 => exact hj 10 (by decide) (by decide) (by decide) (by decide) (by decide)
  | 11 => exact hj 11 (by decide) (by decide) (by decide) (by decide) (by decide)
  | 12 =>
    intro s hs
    obtain ⟨l1, l2, l3⟩ := hl (2 + s) (by omega)
    obtain ⟨b1, b2⟩ := h2 s hs
    rw [b1] at l2 l3
    rw [b2] at l3
    have ea : gxA A D c (20 + 2 * s) = A (20 + 2 * s) := by rw [gxA, if_neg (by omega), if_neg (by omega), if_neg (by omega), if_neg (by omega)]
    have ez : gxA A D c (21 + 2 * s) = D (2 + s) := by rw [gxA, if_neg (by omega), if_neg (by omega), if_neg (by omega), if_pos (by omega), show (21 + 2 * s - 21) / 2 = s by omega]
    have el : LA A (2 + s) = A (20 + 2 * s) := by rw [LA, if_neg (by omega), if_neg (by omega), show 2 + s - 2 = s by omega]
    have er : ro_a (2 + s) = 40 + s := by rw [ro_a, if_neg (by omega), if_neg (by omega)]; omega
    have ed : ro_d (2 + s) = 60 + s := by rw [ro_d, if_neg (by omega), if_neg (by omega)]; omega
    rw [el] at l1 l3
    rw [er] at l1
    rw [ed] at l2
    rw [ea, ez]
    exact ⟨(p3 s hs).1, (p3 s hs).2, l1, l2, l3⟩
  | 13 => exact (by rw [GIf, e0]; exact hj 13 (by decide) (by decide) (by decide) (by decide) (by decide))
  | 14 => exact hj 14 (by decide) (by decide) (by decide) (by decide) (by decide)
  | 15 => exact hj 15 (by decide) (by decide) (by decide) (by decide) (by decide)
  | 16 => exact (by rw [GIf, ex]; exact hj 16 (by decide) (by decide) (by decide) (by decide) (by decide))
  | 17 => exact (by rw [GIf, ex, e1]; exact hj 17 (by decide) (by decide) (by decide) (by decide) (by decide))
  | 18 => exact (by rw [GIf, ex, e0, e1]; exact hj 18 (by decide) (by decide) (by decide) (by decide) (by decide))
  | 19 => exact hj 19 (by decide) (by decide) (by decide) (by decide) (by decide)
  | 20 => exact hH
  | 21 => exact hj 21 (by decide) (by decide) (by decide) (by decide) (by decide)
  | n + 22 => exact trivial
end GXS
