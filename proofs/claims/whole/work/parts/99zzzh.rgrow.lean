/-! ===== The reference's rows that grow: growSpans, parent ===== -/
/-- rows D were replaced by copies of size n -/
def grX (D : List Nat) (S S1 : MM) (F F1 : Nat → Nat × Nat) (t : Nat) (z z1 : Nat → Nat) (n : Nat) : Prop := Keep (fun c => c = t) S S1 ∧ (∀ f, mI S1 f t = mI S f t) ∧ (∀ f, (∀ k, k ∈ D → f ≠ 1500 + k) → mR S1 f t = mR S f t) ∧ (∀ b, b ∈ mL S → F1 b = F b) ∧ FO S1 F1 ∧ (∀ k, k ∉ D → z1 k = z k) ∧ ∀ k, k ∈ D → mR S1 (1500 + k) t = some (z1 k) ∧ F1 (z1 k) = (100, 100 + k) ∧ isO S1 (mdK k) (z1 k) ∧ mN S1 (z1 k) = n ∧ (mdK k = 17 → ∀ j, j < mN S (z k) → eI S1 (z1 k) j = eI S (z k) j) ∧ (mdK k = 18 → ∀ j, j < mN S (z k) → eJ S1 (z1 k) j = eJ S (z k) j)
section GRX
variable {D : List Nat} {S S1 S2 : MM} {F F1 : Nat → Nat × Nat} {t : Nat} {z z1 : Nat → Nat} {n k q : Nat}
theorem grX.rf (hFO : FO S F) : grX [] S S F F t z z n := ⟨Keep.rf, fun _ => rfl, fun _ _ => rfl, fun _ _ => rfl, hFO, fun _ _ => rfl, fun k hk => by cases hk⟩
theorem grX.st {c : Nat} (h : grX D S S1 F F1 t z z1 n) (ht : t ∈ mL S) (hkD : k ∉ D) (hrow : isO S (mdK k) (z k)) (hzt : z k ≠ t) (hq : q ∉ mL S1) (hK : Keep (fun b => b = q) (nA S1 q c n) S2) (hc : mdK k = c) (hb : ∀ f b, mI S2 f b = mI S1 f b ∧ mR S2 f b = mR S1 f b) (h17 : mdK k = 17 → ∀ j, j < mN S1 (z k) → eI S2 q j = eI S1 (z k) j) (h18 : mdK k = 18 → ∀ j, j < mN S1 (z k) → eJ S2 q j = eJ S1 (z k) j) : grX (k :: D) S (sR S2 (1500 + k) t (some q)) F (upF F1 q (100, 100 + k)) t z (upF z1 k q) n := by
  obtain ⟨g1, g2, g3, g4, g5, g6, g7⟩ := h
  have kA : Keep (fun _ => False) S1 (nA S1 q c n) := Keep.nA (P := fun _ => False) Keep.rf hq
  have k12 : Keep (fun _ => False) S1 S2 := Keep.trN kA hK (fun b hb9 e => hq (e ▸ hb9))
  have k3 : Keep (fun b => b = t) S2 (sR S2 (1500 + k) t (some q)) := Keep.sR (P := fun b => b = t) Keep.rf rfl
  have ek : eI S1 (z k) = eI S (z k) ∧ eJ S1 (z k) = eJ S (z k) ∧ mN S1 (z k) = mN S (z k) := by
    have := g1.2.1 (z k) hrow.1 hzt
    exact ⟨this.2.2.2.1, this.2.2.2.2.1, (g1.1 _ hrow.1).2.2⟩
  have oq : isO S2 c q := hK.isO isO_nA_self
  have nq : mN S2 q = n := by
    rw [(hK.1 q (isO_nA_self (S := S1) (a := q) (k := c) (n := n)).1).2.2, mN_nA, if_pos rfl]
  refine ⟨(g1.tr (k12.mono (fun b _ e => e.elim))).tr k3, fun f => (hb f t).1.trans (g2 f), fun f hf => ?_, fun b hb9 => ?_, fun b hb9 => ?_, fun j hj => ?_, fun j hj => ?_⟩
  · rw [mR_sR, if_neg (fun e => hf k (List.mem_cons_self ..) e.1), (hb f t).2]
    exact g3 f (fun j hj => hf j (List.mem_cons_of_mem _ hj))
  · have hbq : b ≠ q := fun e => hq (e ▸ (g1.1 b hb9).1)
    rw [upF_o hbq]; exact g4 b hb9
  · show b ∈ mL S2
    by_cases c9 : b = q
    · rw [c9]; exact oq.1
    · rw [upF_o c9] at hb9; exact (k12.1 b (g5 b hb9)).1
  · have hjk : j ≠ k := fun e => hj (by rw [e]; exact List.mem_cons_self ..)
    rw [upF_o hjk]; exact g6 j (fun w => hj (List.mem_cons_of_mem _ w))
  · by_cases c9 : j = k
    · subst c9
      rw [upF_s, upF_s]
      refine ⟨by rw [mR_sR, if_pos ⟨rfl, rfl⟩], rfl, by rw [hc]; exact oq, nq, fun e i hi => ?_, fun e i hi => ?_⟩
      · show eI S2 q i = _
        rw [h17 e i (by rw [ek.2.2]; exact hi), ek.1]
      · show eJ S2 q i = _
        rw [h18 e i (by rw [ek.2.2]; exact hi), ek.2.1]
    · have hjD : j ∈ D := (List.mem_cons.1 hj).resolve_left c9
      obtain ⟨a1, a2, a3, a4, a5, a6⟩ := g7 j hjD
      have hne : z1 j ≠ q := fun e => hq (e ▸ a3.1)
      have kk := k12.2.1 (z1 j) a3.1 id
      rw [upF_o c9, upF_o hne]
      refine ⟨by rw [mR_sR, if_neg (fun e => c9 (by omega)), (hb _ t).2]; exact a1, a2, k12.isO a3, (k12.1 _ a3.1).2.2.trans a4, fun e i hi => ?_, fun e i hi => ?_⟩
      · show eI S2 (z1 j) i = _
        rw [kk.2.2.2.1]; exact a5 e i hi
      · show eJ S2 (z1 j) i = _
        rw [kk.2.2.2.2.1]; exact a6 e i hi
theorem grX.sI (h : grX D S S1 F F1 t z z1 n) (ht : t ∈ mL S) (hkD : k ∉ D) (hrow : isO S (mdK k) (z k)) (hzt : z k ≠ t) (hq : q ∉ mL S1) (hc : mdK k = 17) : grX (k :: D) S (sR (cpI S1 (z k) q n) (1500 + k) t (some q)) F (upF F1 q (100, 100 + k)) t z (upF z1 k q) n := by
  refine h.st (c := 17) ht hkD hrow hzt hq (Keep.rI (P := fun b => b = q) Keep.rf rfl) hc (fun f b => ⟨rfl, rfl⟩) (fun _ j hj => ?_) (fun e => by rw [hc] at e; cases e)
  show eI (rI (nA S1 q 17 n) q (fun k9 => if k9 < mN S1 (z k) then eI S1 (z k) k9 else 0)) q j = _
  rw [eI_rI, if_pos rfl]
  exact if_pos hj
theorem grX.sJ (h : grX D S S1 F F1 t z z1 n) (ht : t ∈ mL S) (hkD : k ∉ D) (hrow : isO S (mdK k) (z k)) (hzt : z k ≠ t) (hq : q ∉ mL S1) (hc : mdK k = 18) : grX (k :: D) S (sR (cpJ S1 (z k) q n) (1500 + k) t (some q)) F (upF F1 q (100, 100 + k)) t z (upF z1 k q) n := by
  refine h.st (c := 18) ht hkD hrow hzt hq (Keep.rJ (P := fun b => b = q) Keep.rf rfl) hc (fun f b => ⟨rfl, rfl⟩) (fun e => by rw [hc] at e; cases e) (fun _ j hj => ?_)
  show eJ (rJ (nA S1 q 18 n) q (fun k9 => if k9 < mN S1 (z k) then eJ S1 (z k) k9 else 0)) q j = _
  rw [eJ_rJ, if_pos rfl]
  exact if_pos hj
/-- the object with its rows replaced -/
theorem MD.grw {Y : Nat → Nat → Nat} {R : Rb} {kz kz' : Nat → Nat} (h : MD S F t z Y R kz) (hg : grX D S S1 F F1 t z z1 n) (hD : ∀ k, k ∈ D → k ∈ mdL ∧ k ∉ mdP ∧ k < 60) (hn : ∀ k, k ∈ D → mdN kz' k = n) (hkz : ∀ k, k ∈ mdL → k ∉ D → mdN kz' k = mdN kz k) (h9 : kz' 9 = kz 9) (h11 : 64 ≤ kz' 24 ∧ kz' 24 ≤ 131072 ∧ 16 ≤ kz' 40 ∧ kz' 40 ≤ 131072 ∧ 16 ≤ kz' 47 ∧ kz' 47 ≤ 131072) : MD S1 F1 t z1 Y R kz' := by
  obtain ⟨hk, g2, g3, hF, hFO, hz, g7⟩ := hg
  have nt : ∀ {x v}, F x = (100, v) → v ≠ 1 → ¬ x = t := fun {x v} e h1 q => by
    rw [q, (h 0).2] at e
    injection e with _ e
    omega
  have no : ∀ {x o v}, F x = (o, v) → o ≠ 100 → ¬ x = t := fun {x o v} e h1 q => by
    rw [q, (h 0).2] at e
    injection e with e _
    omega
  have kr : ∀ k, k ∈ mdL → eI S1 (z k) = eI S (z k) ∧ eR S1 (z k) = eR S (z k) := fun k hk9 => by
    have r := h 1 k hk9
    have := hk.2.1 _ r.2.2.1.1 (nt r.2.1 (by omega))
    exact ⟨this.2.2.2.1, this.2.2.2.2.2⟩
  have zk : ∀ k, k ∈ mdP → z1 k = z k := fun k hk9 => hz k (fun w => (hD k w).2.1 hk9)
  have pm : ∀ k, k ∈ mdP → k ∈ mdL := by decide
  have z60 : ∀ k, 60 ≤ k → z1 k = z k := fun k hk9 => hz k (fun w => by have := (hD k w).2.2; omega)
  have mr : ∀ k, k ∉ D → mR S1 (1500 + k) t = mR S (1500 + k) t := fun k hk9 => g3 _ (fun j hj e => hk9 (by rw [show k = j by omega]; exact hj))
  have outD : ∀ k, (k = 21 ∨ (25 ≤ k ∧ k ≤ 30)) → k ∉ D := fun k hk9 w => by
    have a := (hD k w).1
    have : ∀ k, k ∈ mdL → ¬ (k = 21 ∨ (25 ≤ k ∧ k ≤ 30)) := by decide
    exact this k a hk9
  intro q
  match q with
  | 0 => exact ⟨hk.isO (h 0).1, (hF _ (h 0).1.1).trans (h 0).2⟩
  | 1 =>
    intro k hk9
    by_cases c : k ∈ D
    · obtain ⟨a1, a2, a3, a4, -, -⟩ := g7 k c
      exact ⟨a1, a2, a3, a4.trans (hn k c).symm⟩
    · obtain ⟨a1, a2, a3, a4⟩ := h 1 k hk9
      rw [hz k c, mr k c, hkz k hk9 c]
      exact ⟨a1, (hF _ a3.1).trans a2, hk.isO a3, (hk.1 _ a3.1).2.2.trans a4⟩
  | 2 =>
    intro p hp
    obtain ⟨a1, a2⟩ := h 2 p hp
    rw [zk 0 (by decide), (kr 0 (by decide)).2]
    refine ⟨a1, a2.keep hk (fun b hb w => ?_) hF⟩
    rw [w, (h 0).2] at hb
    have hb : 100 = 101 + p := hb
    omega
  | 3 =>
    obtain ⟨a1, a2, a3⟩ := h 3
    refine ⟨(g2 _).trans a1, a2, ?_⟩
    unfold byR
    rw [zk 1 (by decide), (kr 1 (by decide)).1]; exact a3
  | 4 =>
    intro k hk9
    unfold mdS
    rw [zk 3 (by decide), zk 4 (by decide), (kr 3 (by decide)).2, (kr 4 (by decide)).1, z60 (60 + k) (by omega)]
    rcases h 4 k hk9 with ⟨a1, a2⟩ | ⟨a1, a2, a3, a4, a5, a6, a7, a8⟩
    · exact Or.inl ⟨a1, a2⟩
    · refine Or.inr ⟨a1, a2, hk.isO a3, (hk.1 _ a3.1).2.2.trans a4, (hF _ a3.1).trans a5, a6, a7, ?_⟩
      unfold byR
      rw [(hk.2.1 _ a3.1 (no a5 (by omega))).2.2.2.1]
      exact a8
  | 5 =>
    intro b hb
    rw [zk 5 (by decide), zk 6 (by decide), (kr 5 (by decide)).1, (kr 6 (by decide)).1]; exact h 5 b hb
  | 6 =>
    obtain ⟨a1, a2, a3⟩ := h 6
    rw [MDf, zk 7 (by decide), (kr 7 (by decide)).1]
    exact ⟨(g2 1508).trans a1, a2, a3⟩
  | 7 =>
    obtain ⟨a1, a2⟩ := h 7
    rw [MDf, zk 9 (by decide), (kr 9 (by decide)).1, h9]
    exact ⟨(g2 1510).trans a1, a2⟩
  | 8 =>
    intro a ha
    rw [zk 11 (by decide), zk 12 (by decide), (kr 11 (by decide)).1, (kr 12 (by decide)).1]; exact h 8 a ha
  | 9 =>
    obtain ⟨a1, a2, a3, a4⟩ := h 9
    exact ⟨(g2 _).trans a1, a2, (g2 _).trans a3, a4⟩
  | 10 =>
    intro k hk9
    obtain ⟨a1, a2, a3, B', a4⟩ := h 10 k hk9
    unfold mdO
    rw [hz k (outD k hk9), z60 (70 + k) (by omega), mr k (outD k hk9)]
    exact ⟨a1, (hF _ a4.1.1).trans a2, (hF _ a4.2.2.1.1).trans a3, B', a4.kp hk (no a2 (by decide)) (no a3 (by decide))⟩
  | 11 => exact h11
  | 12 => exact hFO
  | n + 13 => trivial
end GRX
def gsL : List Nat := [46, 45, 44, 43, 42, 41, 40]
def T_rgs : TR := fun Rc Rs av S cs sl K _Kx => match av with
  | [.inr (.inr t_o)] => pa t_o fun t => (∃ (F : Nat → Nat × Nat) (z : Nat → Nat) (Y : Nat → Nat → Nat) (R : Rb) (kz : Nat → Nat), (MD S F t z Y R kz ∧ mI S 1549 t = nI (kz 40) ∧ kz 40 ≤ 8192) ∧ cs + 7 ≤ Rc ∧ sl + (14 * kz 40) ≤ Rs ∧ (∀ (S' : MM), (∃ F' z', MD S' F' t z' Y R (upF kz 40 (2 * kz 40)) ∧ grX gsL S S' F F' t z z' (2 * kz 40) ∧ ∀ k, k ∈ gsL → z' k ∉ mL S) → K none S' (cs + 7) (sl + (14 * kz 40))))
  | _ => False
def sp_rgs (t : Nat) (F : Nat → Nat × Nat) (z : Nat → Nat) (Y : Nat → Nat → Nat) (R : Rb) (kz : Nat → Nat) : Sp := (fun av S => av = [.inr (.inr (some t))] ∧ (MD S F t z Y R kz ∧ mI S 1549 t = nI (kz 40) ∧ kz 40 ≤ 8192), fun _ S => 7, fun _ S => 14 * kz 40, fun _ S rv S' => rv = none ∧ (∃ F' z', MD S' F' t z' Y R (upF kz 40 (2 * kz 40)) ∧ grX gsL S S' F F' t z z' (2 * kz 40) ∧ ∀ k, k ∈ gsL → z' k ∉ mL S), fun _ _ _ _ => False)
def tX14_growSpans : CD := [(0, .iconst 2), (1, .aload_n 0), (2, .getfield 467), (5, .imul), (6, .istore_n 1), (7, .aload_n 0), (8, .aload_n 0), (9, .getfield 103), (12, .iload_n 1), (13, .invokestatic 304), (16, .putfield 103), (19, .aload_n 0), (20, .aload_n 0), (21, .getfield 106), (24, .iload_n 1), (25, .invokestatic 304), (28, .putfield 106), (31, .aload_n 0), (32, .aload_n 0), (33, .getfield 109), (36, .iload_n 1), (37, .invokestatic 304), (40, .putfield 109), (43, .aload_n 0), (44, .aload_n 0), (45, .getfield 112), (48, .iload_n 1), (49, .invokestatic 304), (52, .putfield 112), (55, .aload_n 0), (56, .aload_n 0), (57, .getfield 115), (60, .iload_n 1), (61, .invokestatic 479), (64, .putfield 115), (67, .aload_n 0), (68, .aload_n 0), (69, .getfield 119), (72, .iload_n 1), (73, .invokestatic 479), (76, .putfield 119), (79, .aload_n 0), (80, .aload_n 0), (81, .getfield 122), (84, .iload_n 1), (85, .invokestatic 479), (88, .putfield 122), (91, .return_)]
set_option maxRecDepth 100000 in
theorem kX14_growSpans : chk cX14_growSpans tX14_growSpans = true := by decide +kernel
theorem vX14_growSpans_304 : ∀ w ∈ ([.methodLink RX14 304 yJ7_copyOf_59c91, .static yJ7_copyOf_59c91, .initialized yJ7_copyOf_59c91.cls, .code yJ7_copyOf_59c91 cJ7_copyOf_59c91 3 (some (.array .int))] : List Cond), w ∈ lw_good := List.forall_mem_cons.mpr ⟨mgd 2209 (by decide +kernel) (by decide +kernel), List.forall_mem_cons.mpr ⟨mgd 1267 (by decide +kernel) (by decide +kernel), List.forall_mem_cons.mpr ⟨mgd 135 (by decide +kernel) (by decide +kernel), List.forall_mem_cons.mpr ⟨mgd 1268 (by decide +kernel) (by decide +kernel), fun _ h => absurd h List.not_mem_nil⟩⟩⟩⟩
theorem vX14_growSpans_479 : ∀ w ∈ ([.methodLink RX14 479 yJ7_copyOf_c38d5, .static yJ7_copyOf_c38d5, .initialized yJ7_copyOf_c38d5.cls, .code yJ7_copyOf_c38d5 cJ7_copyOf_c38d5 3 (some (.array .long))] : List Cond), w ∈ lw_good := List.forall_mem_cons.mpr ⟨mgd 2385 (by decide +kernel) (by decide +kernel), List.forall_mem_cons.mpr ⟨mgd 2386 (by decide +kernel) (by decide +kernel), List.forall_mem_cons.mpr ⟨mgd 135 (by decide +kernel) (by decide +kernel), List.forall_mem_cons.mpr ⟨mgd 2387 (by decide +kernel) (by decide +kernel), fun _ h => absurd h List.not_mem_nil⟩⟩⟩⟩
set_option maxRecDepth 100000 in
set_option maxHeartbeats 2000000 in
theorem c_rgs (l : Launch) : ∀ (t : Nat) (F : Nat → Nat × Nat) (z : Nat → Nat) (Y : Nat → Nat → Nat) (R : Rb) (kz : Nat → Nat), Ct l yX14_growSpans cX14_growSpans 2 none 2 54 (sp_rgs t F z Y R kz) := by
  intro t F z Y R kz
  refine Ct.of (fX14, nX14, aX14, iX14, lX14, [(304, 2, 2, 3, T_cpi), (479, 2, 2, 3, T_cpj)], qX14, gX14, []) false tX14_growSpans (fun _ _ _ => none) (by decide) (by decide) kX14_growSpans ⟨_, _, rfl⟩ fX14_ok nX14_ok aX14_ok iX14_ok lX14_ok (fun p e R s m args below meth c Q D cy z r A C hR1 hR2 => List.forall_mem_cons.mpr ⟨cOK_use (fun _ _ _ _ _ _ _ _ h => let ⟨sp, h1, _, h3⟩ := u_cpi l _ _ _ _ _ _ _ _ h; ⟨sp, cOK_S C h1 vX14_growSpans_304 ⟨by decide, by decide, by decide +kernel⟩ ⟨by rw [hR1]; decide, by rw [hR2]; decide⟩, h3⟩), List.forall_mem_cons.mpr ⟨cOK_use (fun _ _ _ _ _ _ _ _ h => let ⟨sp, h1, _, h3⟩ := u_cpj l _ _ _ _ _ _ _ _ h; ⟨sp, cOK_S C h1 vX14_growSpans_479 ⟨by decide, by decide, by decide +kernel⟩ ⟨by rw [hR1]; decide, by rw [hR2]; decide⟩, h3⟩), fun _ h => absurd h List.not_mem_nil⟩⟩) qX14_ok gX14_ok rfl ?_ ?_
  · rintro _ S ⟨rfl, hp⟩
    refine ⟨Nat.le_of_ble_eq_true rfl, 300, ?_⟩
    show (isO S 15 t ∧ (isO S 15 t ∧ (2 = 2 ∧ ((pa (mR S 1540 t) fun a_1 => (∃ (n_2 : Nat), (2 : Int32) * (mI S 1549 t) = nI n_2 ∧ ((isO S 17 a_1 ∧ mN S a_1 < n_2 ∧ n_2 ≤ 60000000) ∧ 0 + 1 ≤ 7 ∧ 0 + n_2 ≤ 14 * kz 40 ∧ (∀ (x_4 : Option Nat) (S_3 : MM), (∃ q, q ∉ mL S ∧ x_4 = some q ∧ S_3 = cpI S a_1 q n_2) → (True ∧ (isO S_3 15 t ∧ (isO (sR S_3 1540 t x_4) 15 t ∧ (2 = 2 ∧ ((pa (mR (sR S_3 1540 t x_4) 1541 t) fun a_5 => (∃ (n_6 : Nat), (2 : Int32) * (mI S 1549 t) = nI n_6 ∧ ((isO (sR S_3 1540 t x_4) 17 a_5 ∧ mN (sR S_3 1540 t x_4) a_5 < n_6 ∧ n_6 ≤ 60000000) ∧ 0 + 1 + 1 ≤ 7 ∧ 0 + n_2 + n_6 ≤ 14 * kz 40 ∧ (∀ (x_8 : Option Nat) (S_7 : MM), (∃ q, q ∉ mL (sR S_3 1540 t x_4) ∧ x_8 = some q ∧ S_7 = cpI (sR S_3 1540 t x_4) a_5 q n_6) → (True ∧ (isO S_7 15 t ∧ (isO (sR S_7 1541 t x_8) 15 t ∧ (2 = 2 ∧ ((pa (mR (sR S_7 1541 t x_8) 1542 t) fun a_9 => (∃ (n_10 : Nat), (2 : Int32) * (mI S 1549 t) = nI n_10 ∧ ((isO (sR S_7 1541 t x_8) 17 a_9 ∧ mN (sR S_7 1541 t x_8) a_9 < n_10 ∧ n_10 ≤ 60000000) ∧ 0 + 1 + 1 + 1 ≤ 7 ∧ 0 + n_2 + n_6 + n_10 ≤ 14 * kz 40 ∧ (∀ (x_12 : Option Nat) (S_11 : MM), (∃ q, q ∉ mL (sR S_7 1541 t x_8) ∧ x_12 = some q ∧ S_11 = cpI (sR S_7 1541 t x_8) a_9 q n_10) → (True ∧ (isO S_11 15 t ∧ (isO (sR S_11 1542 t x_12) 15 t ∧ (2 = 2 ∧ ((pa (mR (sR S_11 1542 t x_12) 1543 t) fun a_13 => (∃ (n_14 : Nat), (2 : Int32) * (mI S 1549 t) = nI n_14 ∧ ((isO (sR S_11 1542 t x_12) 17 a_13 ∧ mN (sR S_11 1542 t x_12) a_13 < n_14 ∧ n_14 ≤ 60000000) ∧ 0 + 1 + 1 + 1 + 1 ≤ 7 ∧ 0 + n_2 + n_6 + n_10 + n_14 ≤ 14 * kz 40 ∧ (∀ (x_16 : Option Nat) (S_15 : MM), (∃ q, q ∉ mL (sR S_11 1542 t x_12) ∧ x_16 = some q ∧ S_15 = cpI (sR S_11 1542 t x_12) a_13 q n_14) → (True ∧ (isO S_15 15 t ∧ (isO (sR S_15 1543 t x_16) 15 t ∧ (2 = 2 ∧ ((pa (mR (sR S_15 1543 t x_16) 1544 t) fun a_17 => (∃ (n_18 : Nat), (2 : Int32) * (mI S 1549 t) = nI n_18 ∧ ((isO (sR S_15 1543 t x_16) 18 a_17 ∧ mN (sR S_15 1543 t x_16) a_17 < n_18 ∧ n_18 ≤ 60000000) ∧ 0 + 1 + 1 + 1 + 1 + 1 ≤ 7 ∧ 0 + n_2 + n_6 + n_10 + n_14 + n_18 ≤ 14 * kz 40 ∧ (∀ (x_20 : Option Nat) (S_19 : MM), (∃ q, q ∉ mL (sR S_15 1543 t x_16) ∧ x_20 = some q ∧ S_19 = cpJ (sR S_15 1543 t x_16) a_17 q n_18) → (True ∧ (isO S_19 15 t ∧ (isO (sR S_19 1544 t x_20) 15 t ∧ (2 = 2 ∧ ((pa (mR (sR S_19 1544 t x_20) 1545 t) fun a_21 => (∃ (n_22 : Nat), (2 : Int32) * (mI S 1549 t) = nI n_22 ∧ ((isO (sR S_19 1544 t x_20) 18 a_21 ∧ mN (sR S_19 1544 t x_20) a_21 < n_22 ∧ n_22 ≤ 60000000) ∧ 0 + 1 + 1 + 1 + 1 + 1 + 1 ≤ 7 ∧ 0 + n_2 + n_6 + n_10 + n_14 + n_18 + n_22 ≤ 14 * kz 40 ∧ (∀ (x_24 : Option Nat) (S_23 : MM), (∃ q, q ∉ mL (sR S_19 1544 t x_20) ∧ x_24 = some q ∧ S_23 = cpJ (sR S_19 1544 t x_20) a_21 q n_22) → (True ∧ (isO S_23 15 t ∧ (isO (sR S_23 1545 t x_24) 15 t ∧ (2 = 2 ∧ ((pa (mR (sR S_23 1545 t x_24) 1546 t) fun a_25 => (∃ (n_26 : Nat), (2 : Int32) * (mI S 1549 t) = nI n_26 ∧ ((isO (sR S_23 1545 t x_24) 18 a_25 ∧ mN (sR S_23 1545 t x_24) a_25 < n_26 ∧ n_26 ≤ 60000000) ∧ 0 + 1 + 1 + 1 + 1 + 1 + 1 + 1 ≤ 7 ∧ 0 + n_2 + n_6 + n_10 + n_14 + n_18 + n_22 + n_26 ≤ 14 * kz 40 ∧ (∀ (x_28 : Option Nat) (S_27 : MM), (∃ q, q ∉ mL (sR S_23 1545 t x_24) ∧ x_28 = some q ∧ S_27 = cpJ (sR S_23 1545 t x_24) a_25 q n_26) → (True ∧ (isO S_27 15 t ∧ (([] : List MV) = [] ∧ mret none (sp_rgs t F z Y R kz) [.inr (.inr (some t))] S none (sR S_27 1546 t x_28) (0 + 1 + 1 + 1 + 1 + 1 + 1 + 1) (0 + n_2 + n_6 + n_10 + n_14 + n_18 + n_22 + n_26))))))))))))))))))))))))))))))))))))))))))))))))))))))))))))))))))
    obtain ⟨h, h49, h8⟩ := hp
    have e2 : (2 : Int32) * mI S 1549 t = nI (2 * kz 40) := by rw [h49, nI_twice]
    have hk40 : 16 ≤ kz 40 := (h 11).2.2.1
    rw [e2]
    have g0 : grX [] S S F F t z z (2 * kz 40) := grX.rf (h 12)
    have rw9 : ∀ k, k ∈ mdL → mdN kz k = kz 40 → ∀ {D S1 F1 z1}, grX D S S1 F F1 t z z1 (2 * kz 40) → k ∉ D → mR S1 (1500 + k) t = some (z k) ∧ isO S1 (mdK k) (z k) ∧ mN S1 (z k) < 2 * kz 40 := fun k hk hn {D S1 F1 z1} g hD => by
      obtain ⟨a1, a2, a3, a4⟩ := h 1 k hk
      refine ⟨(g.2.2.1 _ (fun j hj e => hD (by rw [show k = j by omega]; exact hj))).trans a1, g.1.isO a3, ?_⟩
      rw [(g.1.1 _ a3.1).2.2, a4, hn]; omega
    have ot : ∀ {D S1 F1 z1}, grX D S S1 F F1 t z z1 (2 * kz 40) → isO S1 15 t := fun {D S1 F1 z1} g => g.1.isO (h 0).1
    have w0 := rw9 40 (by decide) rfl g0 (by decide)
    refine ⟨(h 0).1, (h 0).1, rfl, pa_i w0.1 ⟨2 * kz 40, rfl, ⟨w0.2.1, w0.2.2, by omega⟩, by omega, by omega, fun x0 T0 h0 => ?_⟩⟩
    obtain ⟨q0, hq0, rfl, rfl⟩ := h0
    have g1 := g0.sI (k := 40) (h 0).1.1 (by decide) (h 1 40 (by decide)).2.2.1 (fun e => rK.nt h (k := 40) (by decide) e.symm) hq0 rfl
    have o0 := ot g1
    have f0 : q0 ∉ mL S := fun w => hq0 (g0.1.1 _ w).1
    refine ⟨trivial, o0, ?_⟩
    generalize hS0 : sR (cpI _ (z 40) q0 (2 * kz 40)) _ t (some q0) = S0 at g1 ⊢
    have w1 := rw9 41 (by decide) rfl g1 (by decide)
    refine ⟨ot g1, rfl, pa_i w1.1 ⟨2 * kz 40, rfl, ⟨w1.2.1, w1.2.2, by omega⟩, by omega, by omega, fun x1 T1 h1 => ?_⟩⟩
    obtain ⟨q1, hq1, rfl, rfl⟩ := h1
    have g2 := g1.sI (k := 41) (h 0).1.1 (by decide) (h 1 41 (by decide)).2.2.1 (fun e => rK.nt h (k := 41) (by decide) e.symm) hq1 rfl
    have o1 := ot g2
    have f1 : q1 ∉ mL S := fun w => hq1 (g1.1.1 _ w).1
    refine ⟨trivial, o1, ?_⟩
    generalize hS1 : sR (cpI _ (z 41) q1 (2 * kz 40)) _ t (some q1) = S1 at g2 ⊢
    have w2 := rw9 42 (by decide) rfl g2 (by decide)
    refine ⟨ot g2, rfl, pa_i w2.1 ⟨2 * kz 40, rfl, ⟨w2.2.1, w2.2.2, by omega⟩, by omega, by omega, fun x2 T2 h2 => ?_⟩⟩
    obtain ⟨q2, hq2, rfl, rfl⟩ := h2
    have g3 := g2.sI (k := 42) (h 0).1.1 (by decide) (h 1 42 (by decide)).2.2.1 (fun e => rK.nt h (k := 42) (by decide) e.symm) hq2 rfl
    have o2 := ot g3
    have f2 : q2 ∉ mL S := fun w => hq2 (g2.1.1 _ w).1
    refine ⟨trivial, o2, ?_⟩
    generalize hS2 : sR (cpI _ (z 42) q2 (2 * kz 40)) _ t (some q2) = S2 at g3 ⊢
    have w3 := rw9 43 (by decide) rfl g3 (by decide)
    refine ⟨ot g3, rfl, pa_i w3.1 ⟨2 * kz 40, rfl, ⟨w3.2.1, w3.2.2, by omega⟩, by omega, by omega, fun x3 T3 h3 => ?_⟩⟩
    obtain ⟨q3, hq3, rfl, rfl⟩ := h3
    have g4 := g3.sI (k := 43) (h 0).1.1 (by decide) (h 1 43 (by decide)).2.2.1 (fun e => rK.nt h (k := 43) (by decide) e.symm) hq3 rfl
    have o3 := ot g4
    have f3 : q3 ∉ mL S := fun w => hq3 (g3.1.1 _ w).1
    refine ⟨trivial, o3, ?_⟩
    generalize hS3 : sR (cpI _ (z 43) q3 (2 * kz 40)) _ t (some q3) = S3 at g4 ⊢
    have w4 := rw9 44 (by decide) rfl g4 (by decide)
    refine ⟨ot g4, rfl, pa_i w4.1 ⟨2 * kz 40, rfl, ⟨w4.2.1, w4.2.2, by omega⟩, by omega, by omega, fun x4 T4 h4 => ?_⟩⟩
    obtain ⟨q4, hq4, rfl, rfl⟩ := h4
    have g5 := g4.sJ (k := 44) (h 0).1.1 (by decide) (h 1 44 (by decide)).2.2.1 (fun e => rK.nt h (k := 44) (by decide) e.symm) hq4 rfl
    have o4 := ot g5
    have f4 : q4 ∉ mL S := fun w => hq4 (g4.1.1 _ w).1
    refine ⟨trivial, o4, ?_⟩
    generalize hS4 : sR (cpJ _ (z 44) q4 (2 * kz 40)) _ t (some q4) = S4 at g5 ⊢
    have w5 := rw9 45 (by decide) rfl g5 (by decide)
    refine ⟨ot g5, rfl, pa_i w5.1 ⟨2 * kz 40, rfl, ⟨w5.2.1, w5.2.2, by omega⟩, by omega, by omega, fun x5 T5 h5 => ?_⟩⟩
    obtain ⟨q5, hq5, rfl, rfl⟩ := h5
    have g6 := g5.sJ (k := 45) (h 0).1.1 (by decide) (h 1 45 (by decide)).2.2.1 (fun e => rK.nt h (k := 45) (by decide) e.symm) hq5 rfl
    have o5 := ot g6
    have f5 : q5 ∉ mL S := fun w => hq5 (g5.1.1 _ w).1
    refine ⟨trivial, o5, ?_⟩
    generalize hS5 : sR (cpJ _ (z 45) q5 (2 * kz 40)) _ t (some q5) = S5 at g6 ⊢
    have w6 := rw9 46 (by decide) rfl g6 (by decide)
    refine ⟨ot g6, rfl, pa_i w6.1 ⟨2 * kz 40, rfl, ⟨w6.2.1, w6.2.2, by omega⟩, by omega, by omega, fun x6 T6 h6 => ?_⟩⟩
    obtain ⟨q6, hq6, rfl, rfl⟩ := h6
    have g7 := g6.sJ (k := 46) (h 0).1.1 (by decide) (h 1 46 (by decide)).2.2.1 (fun e => rK.nt h (k := 46) (by decide) e.symm) hq6 rfl
    have o6 := ot g7
    have f6 : q6 ∉ mL S := fun w => hq6 (g6.1.1 _ w).1
    refine ⟨trivial, o6, ?_⟩
    refine ⟨rfl, trivial, ⟨rfl, _, _, h.grw g7 (by decide) (fun k hk => ?_) (fun k hk hD => ?_) rfl ?_, g7, fun k hk => ?_⟩, by show _ ≤ 7; omega, by show _ ≤ 14 * kz 40; omega⟩
    · have : ∀ k, k ∈ [46, 45, 44, 43, 42, 41, 40] → k = 46 ∨ k = 45 ∨ k = 44 ∨ k = 43 ∨ k = 42 ∨ k = 41 ∨ k = 40 := by decide
      rcases this k hk with e | e | e | e | e | e | e <;> subst e <;> rfl
    · have : ∀ k, k ∈ mdL → k ∉ [46, 45, 44, 43, 42, 41, 40] → k = 0 ∨ k = 1 ∨ k = 3 ∨ k = 4 ∨ k = 5 ∨ k = 6 ∨ k = 7 ∨ k = 9 ∨ k = 11 ∨ k = 12 ∨ k = 15 ∨ k = 16 ∨ k = 17 ∨ k = 19 ∨ k = 22 ∨ k = 23 ∨ k = 24 ∨ k = 31 ∨ k = 38 ∨ k = 39 ∨ k = 47 ∨ k = 48 := by decide
      rcases this k hk hD with e | e | e | e | e | e | e | e | e | e | e | e | e | e | e | e | e | e | e | e | e | e <;> subst e <;> rfl
    · obtain ⟨b1, b2, b3, b4, b5, b6⟩ := h 11
      exact ⟨b1, b2, by show 16 ≤ 2 * kz 40; omega, by show 2 * kz 40 ≤ 131072; omega, b5, b6⟩
    · have : ∀ k, k ∈ gsL → k = 46 ∨ k = 45 ∨ k = 44 ∨ k = 43 ∨ k = 42 ∨ k = 41 ∨ k = 40 := by decide
      rcases this k hk with e | e | e | e | e | e | e <;> subst e
      · exact f6
      · exact f5
      · exact f4
      · exact f3
      · exact f2
      · exact f1
      · exact f0
  · exact fun _ _ _ _ _ h => by cases h
theorem u_rgs (l : Launch) : Us l yX14_growSpans cX14_growSpans 2 none 2 54 15 T_rgs := by
  intro Rc Rs av S cs sl K Kx h
  unfold T_rgs at h
  split at h
  · rename_i t_o
    obtain ⟨t, rfl, h_1⟩ := pa_of h
    obtain ⟨F, z, Y, R, kz, hp, hc, hs, hk⟩ := h_1
    refine ⟨(sp_rgs t F z Y R kz), c_rgs l t F z Y R kz, fun _ _ h9 => ⟨_, _, h9.1, (h9.2.1 0).1⟩, ⟨rfl, hp⟩, hc, hs, fun S' h8 => by
      obtain ⟨-, h8⟩ := h8
      exact hk _ h8, fun _ _ q => q.elim⟩
  · exact h.elim
