/-! ===== PatchReader.nextSymbol, seekParents ===== -/
def T_rns : TR := fun Rc Rs av S cs sl K _Kx => match av with
  | [.inr (.inr r_o)] => pa r_o fun r => (∃ (F : Nat → Nat × Nat) (j pk : Nat) (cu : Nat → Nat) (ids fnd rw dr : Nat) (T : List Nat) (p : Nat), (RD S F j r pk cu ids fnd ∧ isO S 8 pk ∧ mR S 800 pk = some rw ∧ By S rw dr T ∧ mI S 911 r = nI p ∧ p ≤ 1000000) ∧ cs ≤ Rc ∧ sl ≤ Rs ∧ (K (some (.inl (symAt T p))) (sI S 911 r (nI (p + wN (symAt T p)))) cs sl))
  | _ => False
def sp_rns (r : Nat) (F : Nat → Nat × Nat) (j pk : Nat) (cu : Nat → Nat) (ids fnd rw dr : Nat) (T : List Nat) (p : Nat) : Sp := (fun av S => av = [.inr (.inr (some r))] ∧ (RD S F j r pk cu ids fnd ∧ isO S 8 pk ∧ mR S 800 pk = some rw ∧ By S rw dr T ∧ mI S 911 r = nI p ∧ p ≤ 1000000), fun _ S => 0, fun _ S => 0, fun _ S rv S' => rv = (some (.inl (symAt T p))) ∧ S' = sI S 911 r (nI (p + wN (symAt T p))), fun _ _ _ _ => False)
def tX8_nextSymbol : CD := [(0, .aload_n 0), (1, .getfield 79), (4, .getfield 97), (7, .aload_n 0), (8, .getfield 51), (11, .invokevirtual 171), (14, .istore_n 1), (15, .aload_n 0), (16, .dup), (17, .getfield 51), (20, .iload_n 1), (21, .invokestatic 174), (24, .iadd), (25, .putfield 51), (28, .iload_n 1), (29, .ireturn)]
set_option maxRecDepth 100000 in
theorem kX8_nextSymbol : chk cX8_nextSymbol tX8_nextSymbol = true := by decide +kernel
theorem vX8_nextSymbol_171 : ∀ w ∈ ([.methodLink RX8 171 yX1_symbolAt, .instanceMethod yX1_symbolAt, .selects yX1_symbolAt.cls yX1_symbolAt yX1_symbolAt, .initialized yX1_symbolAt.cls, .code yX1_symbolAt cX1_symbolAt 7 (some .int)] : List Cond), w ∈ lw_good := List.forall_mem_cons.mpr ⟨mgd 1559 (by decide +kernel) (by decide +kernel), List.forall_mem_cons.mpr ⟨mgd 836 (by decide +kernel) (by decide +kernel), List.forall_mem_cons.mpr ⟨mgd 837 (by decide +kernel) (by decide +kernel), List.forall_mem_cons.mpr ⟨mgd 122 (by decide +kernel) (by decide +kernel), List.forall_mem_cons.mpr ⟨mgd 838 (by decide +kernel) (by decide +kernel), fun _ h => absurd h List.not_mem_nil⟩⟩⟩⟩⟩
theorem vX8_nextSymbol_174 : ∀ w ∈ ([.methodLink RX8 174 yX1_widthOf, .static yX1_widthOf, .initialized yX1_widthOf.cls, .code yX1_widthOf cX1_widthOf 1 (some .int)] : List Cond), w ∈ lw_good := List.forall_mem_cons.mpr ⟨mgd 1560 (by decide +kernel) (by decide +kernel), List.forall_mem_cons.mpr ⟨mgd 850 (by decide +kernel) (by decide +kernel), List.forall_mem_cons.mpr ⟨mgd 122 (by decide +kernel) (by decide +kernel), List.forall_mem_cons.mpr ⟨mgd 851 (by decide +kernel) (by decide +kernel), fun _ h => absurd h List.not_mem_nil⟩⟩⟩⟩
set_option maxRecDepth 100000 in
set_option maxHeartbeats 2000000 in
theorem c_rns (l : Launch) : ∀ (r : Nat) (F : Nat → Nat × Nat) (j pk : Nat) (cu : Nat → Nat) (ids fnd rw dr : Nat) (T : List Nat) (p : Nat), Ct l yX8_nextSymbol cX8_nextSymbol 2 (some .int) 2 47 (sp_rns r F j pk cu ids fnd rw dr T p) := by
  intro r F j pk cu ids fnd rw dr T p
  refine Ct.of (fX8, nX8, aX8, iX8, lX8, [(171, 0, 2, 1, T_sym), (174, 2, 1, 1, T_wof)], qX8, gX8, []) false tX8_nextSymbol (fun _ _ _ => none) (by decide) (by decide) kX8_nextSymbol ⟨_, _, rfl⟩ fX8_ok nX8_ok aX8_ok iX8_ok lX8_ok (fun p e R s m args below meth c Q D cy z r A C hR1 hR2 => List.forall_mem_cons.mpr ⟨cOK_use (fun _ _ _ _ _ _ _ _ h => let ⟨sp, h1, h2, h3⟩ := u_sym l _ _ _ _ _ _ _ _ h; ⟨sp, cOK_V C h1 vX8_nextSymbol_171 ⟨by decide, by decide, by decide +kernel⟩ ⟨by rw [hR1]; decide, by rw [hR2]; decide⟩ (k := 2) (T := TX1) (N := 3) rfl (by decide) h2, h3⟩), List.forall_mem_cons.mpr ⟨cOK_use (fun _ _ _ _ _ _ _ _ h => let ⟨sp, h1, _, h3⟩ := u_wof l _ _ _ _ _ _ _ _ h; ⟨sp, cOK_S C h1 vX8_nextSymbol_174 ⟨by decide, by decide, by decide +kernel⟩ ⟨by rw [hR1]; decide, by rw [hR2]; decide⟩, h3⟩), fun _ h => absurd h List.not_mem_nil⟩⟩) qX8_ok gX8_ok rfl ?_ ?_
  · rintro _ S ⟨rfl, hp⟩
    refine ⟨Nat.le_of_ble_eq_true rfl, 300, ?_⟩
    show (isO S 9 r ∧ (pa (mR S 900 r) fun a_1 => isO S 8 a_1 ∧ (isO S 9 r ∧ (0 = 0 ∧ ((pa (mR S 800 a_1) fun a_2 => (∃ (n_3 : Nat), mI S 911 r = nI n_3 ∧ (∃ (d_4 : Nat) (B_5 : List Nat), (By S a_2 d_4 B_5 ∧ n_3 ≤ 1000000) ∧ 0 ≤ 0 ∧ 0 ≤ 0 ∧ ((isO S 9 r ∧ (2 = 2 ∧ (True ∧ 0 ≤ 0 ∧ 0 ≤ 0 ∧ ((True ∧ (isO S 9 r ∧ (([] : List MV) = [] ∧ mret (some .int) (sp_rns r F j pk cu ids fnd rw dr T p) [.inr (.inr (some r))] S (some (.inl (symAt B_5 n_3))) (sI S 911 r ((mI S 911 r) + (wOf (symAt B_5 n_3)))) 0 0))))))))))))))))
    obtain ⟨hR, h1, h2, hT, h3, h4⟩ := hp
    refine ⟨hR.1, pa_i hR.2.2.1 ⟨h1, hR.1, rfl, pa_i h2 ⟨p, h3, dr, T, ⟨hT, h4⟩, Nat.le_refl _, Nat.le_refl _, hR.1, rfl, trivial, Nat.le_refl _, Nat.le_refl _, trivial, hR.1, rfl, trivial, ⟨rfl, ?_⟩, Nat.le_refl _, Nat.le_refl _⟩⟩⟩
    rw [h3, wOf_N, nI_add]
  · exact fun _ _ _ _ _ h => by cases h
theorem u_rns (l : Launch) : Us l yX8_nextSymbol cX8_nextSymbol 2 (some .int) 2 47 9 T_rns := by
  intro Rc Rs av S cs sl K Kx h
  unfold T_rns at h
  split at h
  · rename_i r_o
    obtain ⟨r, rfl, h_1⟩ := pa_of h
    obtain ⟨F, j, pk, cu, ids, fnd, rw, dr, T, p, hp, hc, hs, hk⟩ := h_1
    refine ⟨(sp_rns r F j pk cu ids fnd rw dr T p), c_rns l r F j pk cu ids fnd rw dr T p, fun _ _ h9 => ⟨_, _, h9.1, h9.2.1.1⟩, ⟨rfl, hp⟩, hc, hs, fun v9 S' h8 => by
      obtain ⟨h7, h8⟩ := h8
      cases h7
      subst h8
      exact hk, fun _ _ q => q.elim⟩
  · exact h.elim
def lkE (G : Gr) (a nu : Nat) : Option Nat := (agE G a)[nu]?
def skF (G : Gr) (L : List Nat) : List (Nat × Nat) → Option (List Nat)
  | [] => some []
  | x :: T => (lkE G (L.getD x.1 0) x.2).bind fun e => (skF G L T).map (e :: ·)
/-- the parents of an event of a span -/
def skV (G : Gr) (L : List Nat) (la : Option Nat) (s : SpT) (k : Nat) : Option (List Nat) := if 0 < k ∨ s.2.2.2.1 = 0 then la.map (fun e => [e]) else skF G L s.2.2.2.2.1
section SKS
variable {G : Gr} {L : List Nat}
theorem skF_some : ∀ {P : List (Nat × Nat)} {Q : List Nat}, P.map (fun x => lkE G (L.getD x.1 0) x.2) = Q.map some → skF G L P = some Q
  | [], [], _ => rfl
  | [], e :: Q, h => by cases h
  | x :: T, [], h => by cases h
  | x :: T, e :: Q, h => by
    rw [List.map_cons, List.map_cons] at h
    injection h with h1 h2
    rw [skF, h1, skF_some h2]; rfl
theorem skF_none : ∀ {P : List (Nat × Nat)} {x : Nat × Nat}, x ∈ P → lkE G (L.getD x.1 0) x.2 = none → skF G L P = none
  | [], x, h, _ => by cases h
  | y :: T, x, h, h2 => by
    rcases List.mem_cons.mp h with e | e
    · subst e; rw [skF, h2]; rfl
    · rw [skF, skF_none e h2]
      cases lkE G (L.getD y.1 0) y.2 <;> rfl
theorem prR_pre {B : List Nat} {q n p' : Nat} {P : List (Nat × Nat)} : ∀ {k : Nat} {M : List (Nat × Nat)} {p : Nat}, prR B q n k M p = some (P, p') → ∃ R, P = M ++ R ∧ R.length = k
  | 0, M, p, h => by
    rw [prR] at h
    injection h with h
    injection h with h1 h2
    exact ⟨[], by rw [h1, List.append_nil], rfl⟩
  | k + 1, M, p, h => by
    cases ev : (vint B q p).1 with
    | none => rw [prR_1 ev] at h; cases h
    | some a =>
      by_cases ha : a < n
      · cases ew : (vint B q (vint B q p).2).1 with
        | none => rw [prR_3 ev ew] at h; cases h
        | some b =>
          rw [prR_4 ev ha ew] at h
          obtain ⟨R, h1, h2⟩ := prR_pre h
          exact ⟨(a, b) :: R, by rw [h1, List.append_assoc]; rfl, by rw [List.length_cons, h2]⟩
      · rw [prR_2 ev ha] at h; cases h
theorem lkp_E {X : GX} {a nu : Nat} (h : nu < 2147483648) : lkp ((agE G a).map X.ad) (nI nu) = (lkE G a nu).map X.ad := by
  unfold lkp lkE
  rw [if_neg (nI_pos h), nI_clamp h, List.getElem?_map]
theorem lkE_lt {a nu e : Nat} (h : lkE G a nu = some e) : e < G.n := by
  have := List.mem_of_getElem? h
  exact List.mem_range.mp (List.mem_filter.mp this).1
end SKS
/-- what seekParents has at hand -/
def skR (S : MM) (F : Nat → Nat × Nat) (j r pk : Nat) (cu : Nat → Nat) (ids fnd i : Nat) (A : Nat → Nat) (X : GX) (G : Gr) (T : Tr) (H : List Nat) (W : Nat → Nat) (m d : Nat) (B L : List Nat) (s : SpT) (la : Option Nat) (q p' : Nat) : Prop := RD S F j r pk cu ids fnd ∧ GI S F i A X G T H W ∧ FO S F ∧ i ≠ 0 ∧ i ≠ j ∧ By S m d B ∧ SpM S r s ∧ s.2.2.2.1 < 2147483648 ∧ mI S 909 r = nI L.length ∧ L.length ≤ 256 ∧ (∀ a ∈ L, a < 256) ∧ (∀ k, k < L.length → eI S ids k = nI (L.getD k 0)) ∧ mR S 910 r = la.map X.ad ∧ (∀ e, la = some e → e < G.n) ∧ Cu S (cu 3) m p' q ∧ s.2.2.2.2.2.1 ≤ q ∧ (s.2.2.2.1 ≠ 0 → prR B q L.length (s.2.2.2.1 - 1) [] s.2.2.2.2.2.1 = some (s.2.2.2.2.1, p'))
def skO : Option (List Nat) → Int32
  | none => -1
  | some Q => nI Q.length
def SkW (cu : Nat → Nat) (fnd : Nat) (b : Nat) : Prop := b = cu 3 ∨ b = fnd
def skQ (S S' : MM) (r m : Nat) (cu : Nat → Nat) (fnd : Nat) (X : GX) (q p' : Nat) (o : Option (List Nat)) : Prop := RW (SkW cu fnd) [] r S S' ∧ (∀ Q, o = some Q → (∀ k, k < Q.length → k < 16 → eR S' fnd k = some (X.ad (Q.getD k 0))) ∧ Cu S' (cu 3) m p' q)
section SKK
variable {S S1 : MM} {F : Nat → Nat × Nat} {j r pk ids fnd i m d q p' : Nat} {cu : Nat → Nat} {A : Nat → Nat} {X : GX} {G : Gr} {T : Tr} {H : List Nat} {W : Nat → Nat} {B L : List Nat} {s : SpT} {la : Option Nat} {qs : List Nat}
theorem fnd_st (hR : RD S F j r pk cu ids fnd) {o : Option Nat} (h : ∀ w, o = some w → isO S 5 w) : fnd ∈ mL S ∧ ¬ mK S fnd < 21 ∧ mK S fnd < 29 ∧ (∀ w, o = some w → w ∈ mL S ∧ (mK S fnd = 21 ∧ mK S w = 1 ∨ mK S fnd = 22 ∧ mK S w = 2 ∨ mK S fnd = 23 ∧ mK S w = 5 ∨ mK S fnd = 24 ∧ mK S w = 11 ∨ mK S fnd = 25 ∧ mK S w = 13 ∨ mK S fnd = 26 ∧ (mK S w = 4 ∨ mK S w = 5) ∨ mK S fnd = 27 ∧ mK S w = 16 ∨ mK S fnd = 28 ∧ mK S w = 17)) := by
  have f := hR.2.2.2.2.2.2.2.2.2.1
  exact ⟨f.1, by rw [f.2]; decide, by rw [f.2]; decide, fun w hw => ⟨(h w hw).1, Or.inr (Or.inr (Or.inl ⟨f.2, (h w hw).2⟩))⟩⟩
theorem SkW.own (hR : RD S F j r pk cu ids fnd) {b : Nat} (h : b = r ∨ SkW cu fnd b) : (F b).1 = j := hR.own (h.elim Or.inl (fun h => h.elim (fun e => Or.inr (Or.inr (Or.inr ⟨3, by decide, e⟩))) (fun e => Or.inr (Or.inr (Or.inl e)))))
/-- it stands while cursor and row change -/
theorem skR.kp (h : skR S F j r pk cu ids fnd i A X G T H W m d B L s la q p') (x1 : RW (SkW cu fnd) [] r S S1) : RD S1 F j r pk cu ids fnd ∧ GI S1 F i A X G T H W ∧ By S1 m d B ∧ SpM S1 r s ∧ mI S1 909 r = nI L.length ∧ (∀ k, k < L.length → eI S1 ids k = nI (L.getD k 0)) ∧ mR S1 910 r = la.map X.ad := by
  obtain ⟨hR, hG, hF, hi, hij, hB, hs, hc, h9, hl, hA, hids, h10, hla, hC, hq, hP⟩ := h
  refine ⟨x1.rd hR (by decide), hG.keep x1.1 (fun b hb z => hij (hb.symm.trans (SkW.own hR z))) hF hi (fun _ _ => rfl), x1.by hR.1 hB (fun b z => z.elim (fun e => ⟨3, e ▸ hC.1, by decide, by decide⟩) (fun e => ⟨23, e ▸ hR.2.2.2.2.2.2.2.2.2.1, by decide, by decide⟩)), ?_, (x1.2.1 909 (by decide)).trans h9, fun k hk => ?_, (x1.2.2.1 910 (by decide)).trans h10⟩
  · obtain ⟨s1, s2, s3, s4, s5, s6, s7⟩ := hs
    exact ⟨(x1.2.1 _ (by decide)).trans s1, (x1.2.1 _ (by decide)).trans s2, (x1.2.1 _ (by decide)).trans s3, (x1.2.1 _ (by decide)).trans s4, (x1.2.1 _ (by decide)).trans s5, (x1.2.1 _ (by decide)).trans s6, (x1.2.2.2 _ (by decide)).trans s7⟩
  · have f := hR.2.2.2.2.2.1
    rw [(x1.1.2.1 ids f.1 (fun z => z.elim (fun e => isO_ne f hR.1 (by decide) e) (fun z => z.elim (fun e => isO_ne f hC.1 (by decide) e) (fun e => isO_ne f hR.2.2.2.2.2.2.2.2.2.1 (by decide) e)))).2.2.2.1]
    exact hids k hk
end SKK
def skL (G : Gr) (L : List Nat) (M : List (Nat × Nat)) (Q : List Nat) : Prop := M.map (fun x => lkE G (L.getD x.1 0) x.2) = Q.map some
def I_sk (k9 r g m : Nat) (cu : Nat → Nat) (fnd : Nat) (X : GX) (G : Gr) (B L : List Nat) (s : SpT) (q p' : Nat) (S : MM) (t : Nat) : KT := fun lo st S1 cs sl => ∃ k M p1 Q, t = 2 * k ∧ (s.2.2.2.1 ≠ 0 ∧ k9 = 0) ∧ M.length + k = s.2.2.2.1 - 1 ∧ prR B q L.length k M p1 = some (s.2.2.2.2.1, p') ∧ skL G L M Q ∧ RW (SkW cu fnd) [] r S S1 ∧ Cu S1 (cu 3) m p1 q ∧ (∀ h, h < Q.length → h < 16 → eR S1 fnd h = some (X.ad (Q.getD h 0))) ∧ lo = [(3, .inl (nI M.length)), (0, .inr (.inr (some r))), (1, .inr (.inr (some g)))] ∧ st = [] ∧ cs = 0 ∧ sl = 0
def I_sk2 (k9 r g m : Nat) (cu : Nat → Nat) (fnd : Nat) (X : GX) (G : Gr) (B L : List Nat) (s : SpT) (q p' : Nat) (S : MM) (t : Nat) : KT := fun lo st S1 cs sl => ∃ k M x e p1 Q, t = 2 * k + 1 ∧ (s.2.2.2.1 ≠ 0 ∧ k9 = 0) ∧ M.length + (k + 1) = s.2.2.2.1 - 1 ∧ prR B q L.length k (M ++ [x]) p1 = some (s.2.2.2.2.1, p') ∧ skL G L M Q ∧ lkE G (L.getD x.1 0) x.2 = some e ∧ RW (SkW cu fnd) [] r S S1 ∧ Cu S1 (cu 3) m p1 q ∧ (∀ h, h < Q.length → h < 16 → eR S1 fnd h = some (X.ad (Q.getD h 0))) ∧ lo = [(3, .inl (nI M.length)), (5, .inr (.inr (some (X.ad e)))), (0, .inr (.inr (some r))), (1, .inr (.inr (some g)))] ∧ st = [] ∧ cs = 0 ∧ sl = 0
def T_rsk : TR := fun Rc Rs av S cs sl K _Kx => match av with
  | [.inr (.inr r_o), .inr (.inr g_o), .inl k9_v] => pa r_o fun r => (pa g_o fun g => (∃ (k9 : Nat), k9_v = nI k9 ∧ (∃ (F : Nat → Nat × Nat) (j pk : Nat) (cu : Nat → Nat) (ids fnd i : Nat) (A : Nat → Nat) (X : GX) (G : Gr) (T : Tr) (H : List Nat) (W : Nat → Nat) (m d : Nat) (B L : List Nat) (s : SpT) (la : Option Nat) (q p' : Nat), (g = A 0 ∧ skR S F j r pk cu ids fnd i A X G T H W m d B L s la q p' ∧ k9 < 2147483648) ∧ cs ≤ Rc ∧ sl ≤ Rs ∧ (∀ (S' : MM), (skQ S S' r m cu fnd X q p' (skV G L la s k9)) → K (some (.inl (skO (skV G L la s k9)))) S' cs sl))))
  | _ => False
def sp_rsk (r : Nat) (g : Nat) (k9 : Nat) (F : Nat → Nat × Nat) (j pk : Nat) (cu : Nat → Nat) (ids fnd i : Nat) (A : Nat → Nat) (X : GX) (G : Gr) (T : Tr) (H : List Nat) (W : Nat → Nat) (m d : Nat) (B L : List Nat) (s : SpT) (la : Option Nat) (q p' : Nat) : Sp := (fun av S => av = [.inr (.inr (some r)), .inr (.inr (some g)), .inl (nI k9)] ∧ (g = A 0 ∧ skR S F j r pk cu ids fnd i A X G T H W m d B L s la q p' ∧ k9 < 2147483648), fun _ S => 0, fun _ S => 0, fun _ S rv S' => rv = (some (.inl (skO (skV G L la s k9)))) ∧ (skQ S S' r m cu fnd X q p' (skV G L la s k9)), fun _ _ _ _ => False)
def tX8_seekParents : CD := [(0, .iload_n 2), (1, .ifCond .gt 11), (4, .aload_n 0), (5, .getfield 63), (8, .iconst (-1)), (9, .if_icmp .ne 26), (12, .aload_n 0), (13, .getfield 39), (16, .iconst 0), (17, .aload_n 0), (18, .getfield 47), (21, .aastore), (22, .aload_n 0), (23, .getfield 47), (26, .ifnonnull 7), (29, .iconst (-1)), (30, .goto 4), (33, .iconst 1), (34, .ireturn), (35, .aload_n 0), (36, .getfield 24), (39, .aload_n 0), (40, .getfield 66), (43, .putfield 134), (46, .iconst 0), (47, .istore_n 3), (48, .iload_n 3), (49, .aload_n 0), (50, .getfield 63), (53, .if_icmp .ge 59), (56, .aload_n 0), (57, .getfield 33), (60, .aload_n 0), (61, .getfield 24), (64, .invokevirtual 122), (67, .iaload), (68, .istore 4), (70, .aload_n 1), (71, .iload 4), (73, .aload_n 0), (74, .getfield 24), (77, .invokevirtual 122), (80, .invokevirtual 146), (83, .astore 5), (85, .aload 5), (87, .ifnonnull 5), (90, .iconst (-1)), (91, .ireturn), (92, .iload_n 3), (93, .bipush 16), (95, .if_icmp .ge 11), (98, .aload_n 0), (99, .getfield 39), (102, .iload_n 3), (103, .aload 5), (105, .aastore), (106, .iinc 3 1), (109, .goto (-61)), (112, .aload_n 0), (113, .getfield 63), (116, .ireturn)]
set_option maxRecDepth 100000 in
theorem kX8_seekParents : chk cX8_seekParents tX8_seekParents = true := by decide +kernel
theorem vX8_seekParents_122 : ∀ w ∈ ([.methodLink RX8 122 yX2_varint, .instanceMethod yX2_varint, .selects yX2_varint.cls yX2_varint yX2_varint, .initialized yX2_varint.cls, .code yX2_varint cX2_varint 4 (some .int)] : List Cond), w ∈ lw_good := List.forall_mem_cons.mpr ⟨mgd 1512 (by decide +kernel) (by decide +kernel), List.forall_mem_cons.mpr ⟨mgd 1482 (by decide +kernel) (by decide +kernel), List.forall_mem_cons.mpr ⟨mgd 1483 (by decide +kernel) (by decide +kernel), List.forall_mem_cons.mpr ⟨mgd 131 (by decide +kernel) (by decide +kernel), List.forall_mem_cons.mpr ⟨mgd 1484 (by decide +kernel) (by decide +kernel), fun _ h => absurd h List.not_mem_nil⟩⟩⟩⟩⟩
theorem vX8_seekParents_146 : ∀ w ∈ ([.methodLink RX8 146 yX5_lookup, .instanceMethod yX5_lookup, .selects yX5_lookup.cls yX5_lookup yX5_lookup, .initialized yX5_lookup.cls, .code yX5_lookup cX5_lookup 3 (some (.object "WeaveText$Event"))] : List Cond), w ∈ lw_good := List.forall_mem_cons.mpr ⟨mgd 1561 (by decide +kernel) (by decide +kernel), List.forall_mem_cons.mpr ⟨mgd 665 (by decide +kernel) (by decide +kernel), List.forall_mem_cons.mpr ⟨mgd 666 (by decide +kernel) (by decide +kernel), List.forall_mem_cons.mpr ⟨mgd 125 (by decide +kernel) (by decide +kernel), List.forall_mem_cons.mpr ⟨mgd 667 (by decide +kernel) (by decide +kernel), fun _ h => absurd h List.not_mem_nil⟩⟩⟩⟩⟩
set_option maxRecDepth 100000 in
set_option maxHeartbeats 2000000 in
theorem c_rsk (l : Launch) : ∀ (r : Nat) (g : Nat) (k9 : Nat) (F : Nat → Nat × Nat) (j pk : Nat) (cu : Nat → Nat) (ids fnd i : Nat) (A : Nat → Nat) (X : GX) (G : Gr) (T : Tr) (H : List Nat) (W : Nat → Nat) (m d : Nat) (B L : List Nat) (s : SpT) (la : Option Nat) (q p' : Nat), Ct l yX8_seekParents cX8_seekParents 6 (some .int) 4 86 (sp_rsk r g k9 F j pk cu ids fnd i A X G T H W m d B L s la q p') := by
  intro r g k9 F j pk cu ids fnd i A X G T H W m d B L s la q p'
  refine Ct.of (fX8, nX8, aX8, iX8, lX8, [(122, 0, 1, 1, T_cvar), (146, 0, 3, 3, T_glkp)], qX8, gX8, []) false tX8_seekParents (fun _ S => look [(48, ([3,0,1], I_sk k9 r g m cu fnd X G B L s q p' S)), (92, ([3,5,0,1], I_sk2 k9 r g m cu fnd X G B L s q p' S))]) (by decide) (by decide) kX8_seekParents ⟨_, _, rfl⟩ fX8_ok nX8_ok aX8_ok iX8_ok lX8_ok (fun p e R s m args below meth c Q D cy z r A C hR1 hR2 => List.forall_mem_cons.mpr ⟨cOK_use (fun _ _ _ _ _ _ _ _ h => let ⟨sp, h1, h2, h3⟩ := u_cvar l _ _ _ _ _ _ _ _ h; ⟨sp, cOK_V C h1 vX8_seekParents_122 ⟨by decide, by decide, by decide +kernel⟩ ⟨by rw [hR1]; decide, by rw [hR2]; decide⟩ (k := 3) (T := TX2) (N := 3) rfl (by decide) h2, h3⟩), List.forall_mem_cons.mpr ⟨cOK_use (fun _ _ _ _ _ _ _ _ h => let ⟨sp, h1, h2, h3⟩ := u_glkp l _ _ _ _ _ _ _ _ h; ⟨sp, cOK_V C h1 vX8_seekParents_146 ⟨by decide, by decide, by decide +kernel⟩ ⟨by rw [hR1]; decide, by rw [hR2]; decide⟩ (k := 6) (T := TX5) (N := 12) rfl (by decide) h2, h3⟩), fun _ h => absurd h List.not_mem_nil⟩⟩) qX8_ok gX8_ok rfl ?_ ?_
  · rintro _ S ⟨rfl, hp⟩
    refine ⟨Nat.le_of_ble_eq_true rfl, 300, ?_⟩
    show ((0 < (nI k9) → (isO S 9 r ∧ (isO S 9 r ∧ (pa (mR S 908 r) fun a_1 => a_1 ∈ mL S ∧ ¬ mK S a_1 < 21 ∧ mK S a_1 < 29 ∧ inR S a_1 (0 : Int32) ∧ (∀ w_2, (mR S 910 r) = some w_2 → w_2 ∈ mL S ∧ (mK S a_1 = 21 ∧ mK S w_2 = 1 ∨ mK S a_1 = 22 ∧ mK S w_2 = 2 ∨ mK S a_1 = 23 ∧ mK S w_2 = 5 ∨ mK S a_1 = 24 ∧ mK S w_2 = 11 ∨ mK S a_1 = 25 ∧ mK S w_2 = 13 ∨ mK S a_1 = 26 ∧ (mK S w_2 = 4 ∨ mK S w_2 = 5) ∨ mK S a_1 = 27 ∧ mK S w_2 = 16 ∨ mK S a_1 = 28 ∧ mK S w_2 = 17)) ∧ (isO (rR S a_1 (va_up (eR S a_1) (0 : Int32).toNatClampNeg (mR S 910 r))) 9 r ∧ ((∀ w_3, (mR (rR S a_1 (va_up (eR S a_1) (0 : Int32).toNatClampNeg (mR S 910 r))) 910 r) = some w_3 → (([] : List MV) = [] ∧ mret (some .int) (sp_rsk r g k9 F j pk cu ids fnd i A X G T H W m d B L s la q p') [.inr (.inr (some r)), .inr (.inr (some g)), .inl (nI k9)] S (some (.inl (1 : Int32))) (rR S a_1 (va_up (eR S a_1) (0 : Int32).toNatClampNeg (mR S 910 r))) 0 0)) ∧ ((mR (rR S a_1 (va_up (eR S a_1) (0 : Int32).toNatClampNeg (mR S 910 r))) 910 r) = none → (([] : List MV) = [] ∧ mret (some .int) (sp_rsk r g k9 F j pk cu ids fnd i A X G T H W m d B L s la q p') [.inr (.inr (some r)), .inr (.inr (some g)), .inl (nI k9)] S (some (.inl (-1 : Int32))) (rR S a_1 (va_up (eR S a_1) (0 : Int32).toNatClampNeg (mR S 910 r))) 0 0)))))))) ∧ (¬ 0 < (nI k9) → (isO S 9 r ∧ ((¬ (mI S 915 r) = (-1 : Int32) → (isO S 9 r ∧ (isO S 9 r ∧ (True ∧ (pa (mR S 904 r) fun a_4 => isO S 3 a_4 ∧ (∃ k1, I_sk k9 r g m cu fnd X G B L s q p' S k1 [(3, .inl (0 : Int32)), (0, .inr (.inr (some r))), (1, .inr (.inr (some g)))] [] (sI S 301 a_4 (mI S 916 r)) 0 0)))))) ∧ ((mI S 915 r) = (-1 : Int32) → (isO S 9 r ∧ (isO S 9 r ∧ (pa (mR S 908 r) fun a_5 => a_5 ∈ mL S ∧ ¬ mK S a_5 < 21 ∧ mK S a_5 < 29 ∧ inR S a_5 (0 : Int32) ∧ (∀ w_6, (mR S 910 r) = some w_6 → w_6 ∈ mL S ∧ (mK S a_5 = 21 ∧ mK S w_6 = 1 ∨ mK S a_5 = 22 ∧ mK S w_6 = 2 ∨ mK S a_5 = 23 ∧ mK S w_6 = 5 ∨ mK S a_5 = 24 ∧ mK S w_6 = 11 ∨ mK S a_5 = 25 ∧ mK S w_6 = 13 ∨ mK S a_5 = 26 ∧ (mK S w_6 = 4 ∨ mK S w_6 = 5) ∨ mK S a_5 = 27 ∧ mK S w_6 = 16 ∨ mK S a_5 = 28 ∧ mK S w_6 = 17)) ∧ (isO (rR S a_5 (va_up (eR S a_5) (0 : Int32).toNatClampNeg (mR S 910 r))) 9 r ∧ ((∀ w_7, (mR (rR S a_5 (va_up (eR S a_5) (0 : Int32).toNatClampNeg (mR S 910 r))) 910 r) = some w_7 → (([] : List MV) = [] ∧ mret (some .int) (sp_rsk r g k9 F j pk cu ids fnd i A X G T H W m d B L s la q p') [.inr (.inr (some r)), .inr (.inr (some g)), .inl (nI k9)] S (some (.inl (1 : Int32))) (rR S a_5 (va_up (eR S a_5) (0 : Int32).toNatClampNeg (mR S 910 r))) 0 0)) ∧ ((mR (rR S a_5 (va_up (eR S a_5) (0 : Int32).toNatClampNeg (mR S 910 r))) 910 r) = none → (([] : List MV) = [] ∧ mret (some .int) (sp_rsk r g k9 F j pk cu ids fnd i A X G T H W m d B L s la q p') [.inr (.inr (some r)), .inr (.inr (some g)), .inl (nI k9)] S (some (.inl (-1 : Int32))) (rR S a_5 (va_up (eR S a_5) (0 : Int32).toNatClampNeg (mR S 910 r))) 0 0))))))))))))
    obtain ⟨rfl, hK, hk9⟩ := hp
    obtain ⟨hR, hG, hF, hi, hij, hB, hs, hc, h9, hl, hA, hids, h10, hla, hC, hq, hP⟩ := id hK
    have la5 : ∀ w, mR S 910 r = some w → isO S 5 w := fun w hw => by
      rw [h10] at hw
      cases e : la with
      | none => rw [e] at hw; cases hw
      | some k =>
        rw [e] at hw
        injection hw with hw
        rw [← hw]
        exact (hG.ev.2.1 k (hla k e)).1
    obtain ⟨f1, f2, f3, f4⟩ := fnd_st hR la5
    have fN := hR.2.2.2.2.2.2.2.2.2.2.1
    have fR := hR.2.2.2.2.2.2.2.2.1
    have r1 : RW (SkW cu fnd) [] r S (rR S fnd (va_up (eR S fnd) (Int32.toNatClampNeg 0) (mR S 910 r))) := RW.rf.wF (Or.inr rfl)
    have c1 : Cu (rR S fnd (va_up (eR S fnd) (Int32.toNatClampNeg 0) (mR S 910 r))) (cu 3) m p' q := hC.keep (Keep.rR (P := fun b => b = fnd) Keep.rf rfl) (fun e => isO_ne hC.1 hR.2.2.2.2.2.2.2.2.2.1 (by decide) e)
    have ret : skV G L la s k9 = la.map (fun e => [e]) → (∀ w, mR (rR S fnd (va_up (eR S fnd) (Int32.toNatClampNeg 0) (mR S 910 r))) 910 r = some w → ([] : List MV) = [] ∧ mret (some .int) (sp_rsk r (A 0) k9 F j pk cu ids fnd i A X G T H W m d B L s la q p') [.inr (.inr (some r)), .inr (.inr (some (A 0))), .inl (nI k9)] S (some (.inl 1)) (rR S fnd (va_up (eR S fnd) (Int32.toNatClampNeg 0) (mR S 910 r))) 0 0) ∧ (mR (rR S fnd (va_up (eR S fnd) (Int32.toNatClampNeg 0) (mR S 910 r))) 910 r = none → ([] : List MV) = [] ∧ mret (some .int) (sp_rsk r (A 0) k9 F j pk cu ids fnd i A X G T H W m d B L s la q p') [.inr (.inr (some r)), .inr (.inr (some (A 0))), .inl (nI k9)] S (some (.inl (-1))) (rR S fnd (va_up (eR S fnd) (Int32.toNatClampNeg 0) (mR S 910 r))) 0 0) := by
      intro hv
      refine ⟨fun w hw => ?_, fun hw => ?_⟩
      · have hw : mR S 910 r = some w := hw
        cases e : la with
        | none => rw [h10, e] at hw; cases hw
        | some k =>
          subst e
          refine ⟨rfl, trivial, ⟨by rw [hv]; rfl, r1, fun Q hQ => ⟨fun h h1 _ => ?_, c1⟩⟩, Nat.le_refl _, Nat.le_refl _⟩
          rw [hv] at hQ
          injection hQ with hQ
          subst hQ
          have h0 : h = 0 := by have : h < 1 := h1; omega
          subst h0
          rw [eR_rR, if_pos rfl, h10]; rfl
      · have hw : mR S 910 r = none := hw
        cases e : la with
        | none =>
          subst e
          exact ⟨rfl, trivial, ⟨by rw [hv]; rfl, r1, fun Q hQ => by rw [hv] at hQ; cases hQ⟩, Nat.le_refl _, Nat.le_refl _⟩
        | some k => rw [h10, e] at hw; cases hw
    have i0 : inR S fnd 0 := inRn (i := 0) fN (by decide) (by decide)
    refine ⟨fun h0 => ⟨hR.1, hR.1, pa_i fR ⟨f1, f2, f3, i0, f4, hR.1, ret ?_⟩⟩, fun h0 => ⟨hR.1, fun h1 => ⟨hR.1, hR.1, trivial, pa_i (hR.2.2.2.1 3 (by decide)).1 ⟨hC.1, ?_⟩⟩, fun h1 => ⟨hR.1, hR.1, pa_i fR ⟨f1, f2, f3, i0, f4, hR.1, ret ?_⟩⟩⟩⟩
    · have k0 : 0 < k9 := (nI_ltI (a := 0) (by decide) hk9).1 h0
      unfold skV
      rw [if_pos (Or.inl k0)]
    · have hs4 : mI S 915 r = nI s.2.2.2.1 - 1 := hs.2.2.2.1
      have c0 : s.2.2.2.1 ≠ 0 := fun e => h1 (hs4.trans ((nm1 hc).2 e))
      have k0 : k9 = 0 := Decidable.byContradiction (fun z => h0 ((nI_ltI (a := 0) (by decide) hk9).2 (Nat.pos_of_ne_zero z)))
      rw [show mI S 916 r = nI s.2.2.2.2.2.1 from hs.2.2.2.2.1]
      exact ⟨2 * (s.2.2.2.1 - 1), s.2.2.2.1 - 1, [], s.2.2.2.2.2.1, [], rfl, ⟨c0, k0⟩, Nat.zero_add _, hP c0, rfl, RW.rf.wIo (Or.inl rfl) (hR.cr (by decide)), hC.mv hq, fun h hh => absurd hh (Nat.not_lt_zero h), rfl, rfl, rfl, rfl⟩
    · have hs4 : mI S 915 r = nI s.2.2.2.1 - 1 := hs.2.2.2.1
      have c0 : s.2.2.2.1 = 0 := (nm1 hc).1 (hs4.symm.trans h1)
      unfold skV
      rw [if_pos (Or.inr c0)]
  · intro av S hpre pc I hI k lo st S1 cs sl h
    obtain ⟨rfl, hp⟩ := hpre
    have hm := look_in hI
    simp only [List.mem_cons, List.not_mem_nil, or_false] at hm
    rcases hm with hm | hm
    · cases hm
      obtain ⟨k, M, p1, Q, rfl, hs, hl, hP, hL, x1, x2, x3, rfl, rfl, rfl, rfl⟩ := h
      obtain ⟨hg0, hK, hk9⟩ := hp
      obtain ⟨hR1, hG1, hB1, hs1, h91, hid1, h101⟩ := hK.kp x1
      obtain ⟨hR, hG, hF, hi, hij, hB, hss, hc, h9, hl9, hA, hids, h10, hla, hC, hq, hPP⟩ := id hK
      have rc := hR.cr (a := 3) (by decide)
      have i1 := hR1.2.2.2.2
      have c3 := hR1.2.2.2.1 3 (by decide)
      refine ⟨300, ?_⟩
      show (isO S1 9 r ∧ (((mI S1 915 r) ≤ (nI M.length) → (isO S1 9 r ∧ (([] : List MV) = [] ∧ mret (some .int) (sp_rsk r g k9 F j pk cu ids fnd i A X G T H W m d B L s la q p') [.inr (.inr (some r)), .inr (.inr (some g)), .inl (nI k9)] S (some (.inl (mI S1 915 r))) S1 0 0))) ∧ (¬ (mI S1 915 r) ≤ (nI M.length) → (isO S1 9 r ∧ (isO S1 9 r ∧ (0 = 0 ∧ ((pa (mR S1 904 r) fun a_1 => (∃ (s_2 d_3 p_4 q_5 : Nat) (B_6 : List Nat), (Cu S1 a_1 s_2 p_4 q_5 ∧ By S1 s_2 d_3 B_6) ∧ 0 ≤ 0 ∧ 0 ≤ 0 ∧ ((pa (mR S1 907 r) fun a_8 => ∃ v_9 : Int32, (isO (sI S1 301 a_1 (nI (vint B_6 q_5 p_4).2)) 17 a_8 ∧ inR (sI S1 301 a_1 (nI (vint B_6 q_5 p_4).2)) a_8 (oI (vint B_6 q_5 p_4).1) ∧ v_9 = eI (sI S1 301 a_1 (nI (vint B_6 q_5 p_4).2)) a_8 (oI (vint B_6 q_5 p_4).1).toNatClampNeg ∨ a_8 = (mQ (sI S1 301 a_1 (nI (vint B_6 q_5 p_4).2))).1 ∧ vp_in (oI (vint B_6 q_5 p_4).1) 16 ∧ v_9 = mRem (oI (vint B_6 q_5 p_4).1).toNatClampNeg) ∧ (isO (sI S1 301 a_1 (nI (vint B_6 q_5 p_4).2)) 9 r ∧ (0 = 0 ∧ ((pa (mR (sI S1 301 a_1 (nI (vint B_6 q_5 p_4).2)) 904 r) fun a_10 => (∃ (s_11 d_12 p_13 q_14 : Nat) (B_15 : List Nat), (Cu (sI S1 301 a_1 (nI (vint B_6 q_5 p_4).2)) a_10 s_11 p_13 q_14 ∧ By (sI S1 301 a_1 (nI (vint B_6 q_5 p_4).2)) s_11 d_12 B_15) ∧ 0 ≤ 0 ∧ 0 ≤ 0 ∧ ((0 = 0 ∧ (∃ (i_17 : Nat), v_9 = nI i_17 ∧ (∃ (ar_18 : Nat) (Lf_19 : Nat → List Nat), (AgT (sI (sI S1 301 a_1 (nI (vint B_6 q_5 p_4).2)) 301 a_10 (nI (vint B_15 q_14 p_13).2)) g ar_18 Lf_19 ∧ i_17 < 256) ∧ 0 ≤ 0 ∧ 0 ≤ 0 ∧ (((∀ w_21, (lkp (Lf_19 i_17) (oI (vint B_15 q_14 p_13).1)) = some w_21 → (∃ k1, k1 < 2 * k ∧ I_sk2 k9 r g m cu fnd X G B L s q p' S k1 [(3, .inl (nI M.length)), (5, .inr (.inr (lkp (Lf_19 i_17) (oI (vint B_15 q_14 p_13).1)))), (0, .inr (.inr (some r))), (1, .inr (.inr (some g)))] [] (sI (sI S1 301 a_1 (nI (vint B_6 q_5 p_4).2)) 301 a_10 (nI (vint B_15 q_14 p_13).2)) 0 0)) ∧ ((lkp (Lf_19 i_17) (oI (vint B_15 q_14 p_13).1)) = none → (([] : List MV) = [] ∧ mret (some .int) (sp_rsk r g k9 F j pk cu ids fnd i A X G T H W m d B L s la q p') [.inr (.inr (some r)), .inr (.inr (some g)), .inl (nI k9)] S (some (.inl (-1 : Int32))) (sI (sI S1 301 a_1 (nI (vint B_6 q_5 p_4).2)) 301 a_10 (nI (vint B_15 q_14 p_13).2)) 0 0))))))))))))))))))))))))
      subst hg0
      rw [show mI S1 915 r = nI s.2.2.2.1 - 1 from hs1.2.2.2.1]
      refine ⟨hR1.1, fun z => ?_, fun z => ?_⟩
      · have z1 := (pc_le hc (by omega)).1 z
        have k0 : k = 0 := by omega
        subst k0
        have hP : some (M, p1) = some (s.2.2.2.2.1, p') := hP
        injection hP with hP
        injection hP with hP1 hP2
        have hv : skV G L la s k9 = some Q := by
          unfold skV
          rw [if_neg (fun w => w.elim (fun w => by have := hs.2; omega) hs.1), ← hP1]
          exact skF_some hL
        have hQl : Q.length = M.length := by
          have := congrArg List.length hL
          rw [List.length_map, List.length_map] at this
          exact this.symm
        refine ⟨hR1.1, rfl, trivial, ⟨?_, x1, fun Q' hQ' => ?_⟩, Nat.le_refl _, Nat.le_refl _⟩
        · rw [hv]
          show some (Sum.inl (nI s.2.2.2.1 - 1)) = some (Sum.inl (nI Q.length))
          rw [hQl, show nI s.2.2.2.1 - 1 = nI (s.2.2.2.1 - 1) from pk_sub (b := 1) (Nat.pos_of_ne_zero hs.1), show s.2.2.2.1 - 1 = M.length from by omega]
        · rw [hv] at hQ'
          injection hQ' with hQ'
          subst hQ'
          exact ⟨x3, hP2 ▸ x2⟩
      · have z1 : ¬ s.2.2.2.1 - 1 ≤ M.length := fun w => z ((pc_le hc (by omega)).2 w)
        obtain ⟨k, rfl⟩ : ∃ k', k = k' + 1 := ⟨k - 1, by omega⟩
        have hv := vint_le (B := B) x2.2.2.2.2.1
        refine ⟨hR1.1, hR1.1, rfl, pa_i c3.1 ⟨m, d, p1, q, B, ⟨x2, hB1⟩, Nat.le_refl _, Nat.le_refl _, pa_i i1.1 ?_⟩⟩
        cases ev : (vint B q p1).1 with
        | none => rw [prR_1 ev] at hP; cases hP
        | some a =>
          have ha := vint_lt hB.bytesLt ev
          have hal : a < L.length := Decidable.byContradiction (fun w => by rw [prR_2 ev w] at hP; cases hP)
          cases ew : (vint B q (vint B q p1).2).1 with
          | none => rw [prR_3 ev ew] at hP; cases hP
          | some b =>
            have hb := vint_lt hB.bytesLt ew
            rw [prR_4 ev hal ew] at hP
            have hg : L.getD a 0 ∈ L := by
              rw [List.getD_eq_getElem?_getD, List.getElem?_eq_getElem hal]
              exact List.getElem_mem hal
            have y1 : RW (SkW cu fnd) [] r S (sI S1 301 (cu 3) (nI (vint B q p1).2)) := x1.wIo (Or.inl rfl) rc
            have y2 := x2.mv hv.2
            have hv2 := vint_le (B := B) y2.2.2.2.2.1
            have z1 : RW (SkW cu fnd) [] r S (sI (sI S1 301 (cu 3) (nI (vint B q p1).2)) 301 (cu 3) (nI (vint B q (vint B q p1).2).2)) := y1.wIo (Or.inl rfl) rc
            have z2 := y2.mv hv2.2
            have hG2 := (hK.kp z1).2.1
            refine ⟨nI (L.getD a 0), Or.inl ⟨i1.2.1, inRn i1.2.2.1 (by omega) (by decide), ?_⟩, hR1.1, rfl, pa_i c3.1 ⟨m, d, (vint B q p1).2, q, B, ⟨y2, (hK.kp y1).2.2.1⟩, Nat.le_refl _, Nat.le_refl _, rfl, L.getD a 0, rfl, A 4, _, ⟨hG2.agt, hA _ hg⟩, Nat.le_refl _, Nat.le_refl _, ?_⟩⟩
            · show nI (L.getD a 0) = eI S1 ids (nI a).toNatClampNeg
              rw [nI_clamp ha]; exact (hid1 a hal).symm
            · rw [ew]
              rw [show lkp ((agE G (L.getD a 0)).map X.ad) (oI (some b)) = (lkE G (L.getD a 0) b).map X.ad from lkp_E hb]
              cases el : lkE G (L.getD a 0) b with
              | none =>
                refine ⟨(fun w hw => by cases hw), fun _ => ?_⟩
                have hv9 : skV G L la s k9 = none := by
                  unfold skV
                  rw [if_neg (fun w => w.elim (fun w => by have := hs.2; omega) hs.1)]
                  obtain ⟨R, e1, e2⟩ := prR_pre hP
                  exact skF_none (x := (a, b)) (by rw [e1]; exact List.mem_append_left _ (List.mem_append_right _ (List.mem_singleton.mpr rfl))) el
                exact ⟨rfl, trivial, ⟨by rw [hv9]; rfl, z1, fun Q' hQ' => by rw [hv9] at hQ'; cases hQ'⟩, Nat.le_refl _, Nat.le_refl _⟩
              | some e =>
                refine ⟨fun w hw => ?_, fun hw => by cases hw⟩
                exact ⟨2 * k + 1, by omega, k, M, (a, b), e, (vint B q (vint B q p1).2).2, Q, rfl, hs, by omega, hP, hL, el, z1, z2, x3, rfl, rfl, rfl, rfl⟩
    · cases hm
      obtain ⟨k, M, x, e, p1, Q, rfl, hs, hl, hP, hL, he, x1, x2, x3, rfl, rfl, rfl, rfl⟩ := h
      obtain ⟨hg0, hK, hk9⟩ := hp
      obtain ⟨hR1, hG1, hB1, hs1, h91, hid1, h101⟩ := hK.kp x1
      obtain ⟨hR, hG, hF, hi, hij, hB, hss, hc, h9, hl9, hA, hids, h10, hla, hC, hq, hPP⟩ := id hK
      have rc := hR.cr (a := 3) (by decide)
      have i1 := hR1.2.2.2.2
      have c3 := hR1.2.2.2.1 3 (by decide)
      refine ⟨300, ?_⟩
      show (((16 : Int32) ≤ (nI M.length) → (∃ k1, k1 < 2 * k + 1 ∧ I_sk k9 r g m cu fnd X G B L s q p' S k1 [(3, .inl ((nI M.length) + (1 : Int32))), (0, .inr (.inr (some r))), (1, .inr (.inr (some g)))] [] S1 0 0)) ∧ (¬ (16 : Int32) ≤ (nI M.length) → (isO S1 9 r ∧ (pa (mR S1 908 r) fun a_1 => a_1 ∈ mL S1 ∧ ¬ mK S1 a_1 < 21 ∧ mK S1 a_1 < 29 ∧ inR S1 a_1 (nI M.length) ∧ (∀ w_2, (some (X.ad e)) = some w_2 → w_2 ∈ mL S1 ∧ (mK S1 a_1 = 21 ∧ mK S1 w_2 = 1 ∨ mK S1 a_1 = 22 ∧ mK S1 w_2 = 2 ∨ mK S1 a_1 = 23 ∧ mK S1 w_2 = 5 ∨ mK S1 a_1 = 24 ∧ mK S1 w_2 = 11 ∨ mK S1 a_1 = 25 ∧ mK S1 w_2 = 13 ∨ mK S1 a_1 = 26 ∧ (mK S1 w_2 = 4 ∨ mK S1 w_2 = 5) ∨ mK S1 a_1 = 27 ∧ mK S1 w_2 = 16 ∨ mK S1 a_1 = 28 ∧ mK S1 w_2 = 17)) ∧ (∃ k1, k1 < 2 * k + 1 ∧ I_sk k9 r g m cu fnd X G B L s q p' S k1 [(3, .inl ((nI M.length) + (1 : Int32))), (0, .inr (.inr (some r))), (1, .inr (.inr (some g)))] [] (rR S1 a_1 (va_up (eR S1 a_1) (nI M.length).toNatClampNeg (some (X.ad e)))) 0 0)))))
      subst hg0
      have hQl : Q.length = M.length := by
        have := congrArg List.length hL
        rw [List.length_map, List.length_map] at this
        exact this.symm
      have hl2 : (M ++ [x]).length = M.length + 1 := by rw [List.length_append, List.length_singleton]
      have hL2 : skL G L (M ++ [x]) (Q ++ [e]) := by
        unfold skL
        rw [List.map_append, List.map_append, show M.map _ = Q.map some from hL, List.map_singleton, List.map_singleton, he]
      have e5 : isO S1 5 (X.ad e) := (hG1.ev.2.1 e (lkE_lt he)).1
      obtain ⟨f1, f2, f3, f4⟩ := fnd_st hR1 (o := some (X.ad e)) (fun w hw => by injection hw with hw; rw [← hw]; exact e5)
      have fN := hR1.2.2.2.2.2.2.2.2.2.2.1
      have fR := hR1.2.2.2.2.2.2.2.2.1
      have qd : ∀ h, (Q ++ [e]).getD h 0 = if h = M.length then e else if h < M.length then Q.getD h 0 else 0 := fun h => by
        rw [List.getD_eq_getElem?_getD]
        by_cases w : h = M.length
        · rw [if_pos w, List.getElem?_append_right (by omega), show h - Q.length = 0 from by omega]; rfl
        · rw [if_neg w]
          by_cases u : h < M.length
          · rw [if_pos u, List.getElem?_append_left (by omega), ← List.getD_eq_getElem?_getD]
          · rw [if_neg u, List.getElem?_append_right (by omega), List.getElem?_eq_none (by rw [List.length_singleton]; omega)]; rfl
      have hl3 : (Q ++ [e]).length = M.length + 1 := by rw [List.length_append, List.length_singleton, hQl]
      refine if_le (a := 16) (by decide) (by omega) (fun h8 => ⟨2 * k, Nat.lt_succ_self _, k, M ++ [x], p1, Q ++ [e], rfl, hs, by rw [hl2]; omega, hP, hL2, x1, x2, fun h hh h16 => ?_, by rw [hl2, ← nI_add]; rfl, rfl, rfl, rfl⟩) (fun h8 => ⟨hR1.1, pa_i fR ⟨f1, f2, f3, inRn fN h8 (by decide), f4, 2 * k, Nat.lt_succ_self _, k, M ++ [x], p1, Q ++ [e], rfl, hs, by rw [hl2]; omega, hP, hL2, x1.wF (Or.inr rfl), ?_, fun h hh h16 => ?_, by rw [hl2, ← nI_add]; rfl, rfl, rfl, rfl⟩⟩)
      · rw [qd h, if_neg (by omega), if_pos (by omega)]
        exact x3 h (by omega) h16
      · exact x2.keep (Keep.rR (P := fun b => b = fnd) Keep.rf rfl) (fun e => isO_ne hC.1 hR.2.2.2.2.2.2.2.2.2.1 (by decide) e)
      · rw [nI_clamp (by omega), eR_rR, if_pos rfl, qd h]
        rw [hl3] at hh
        by_cases w : h = M.length
        · rw [if_pos w, w]; exact if_pos rfl
        · rw [if_neg w, if_pos (by omega)]
          exact (if_neg w).trans (x3 h (by omega) h16)
theorem u_rsk (l : Launch) : Us l yX8_seekParents cX8_seekParents 6 (some .int) 4 86 9 T_rsk := by
  intro Rc Rs av S cs sl K Kx h
  unfold T_rsk at h
  split at h
  · rename_i r_o g_o k9_v
    obtain ⟨r, rfl, h_1⟩ := pa_of h
    obtain ⟨g, rfl, h_2⟩ := pa_of h_1
    obtain ⟨k9, rfl, h_3⟩ := h_2
    obtain ⟨F, j, pk, cu, ids, fnd, i, A, X, G, T, H, W, m, d, B, L, s, la, q, p', hp, hc, hs, hk⟩ := h_3
    refine ⟨(sp_rsk r g k9 F j pk cu ids fnd i A X G T H W m d B L s la q p'), c_rsk l r g k9 F j pk cu ids fnd i A X G T H W m d B L s la q p', fun _ _ h9 => ⟨_, _, h9.1, h9.2.2.1.1.1⟩, ⟨rfl, hp⟩, hc, hs, fun v9 S' h8 => by
      obtain ⟨h7, h8⟩ := h8
      cases h7
      exact hk _ h8, fun _ _ q => q.elim⟩
  · exact h.elim
