/-! ===== The reference's object: a peer changes; note ===== -/
def Rb.sP (R : Rb) (p : Nat) (G : Gr) (T : Tr) (Kn : Nat → Nat → Nat) (C : List (Bool × Nat × Nat)) : Rb := ((upF R.Q.G p G, upF R.Q.T p T, R.1.2.2.1, upF R.Q.Kn p Kn, R.1.2.2.2.2), upF R.C p C, R.2.2)
theorem MD.gp {S S' : MM} {F F' : Nat → Nat × Nat} {t : Nat} {z : Nat → Nat} {Y : Nat → Nat → Nat} {R : Rb} {kz : Nat → Nat} {p : Nat} {y' : Nat → Nat} {G' : Gr} {T' : Tr} {Kn' : Nat → Nat → Nat} {C' : List (Bool × Nat × Nat)} (h : MD S F t z Y R kz) (hp : p < 4) (hk : Keep (fun c => (F c).1 = 101 + p) S S') (hg : RP S' F' (101 + p) y' G' T' Kn' C') (hy : y' 0 = Y p 0) (hf : ∀ b, b ∈ mL S → F' b = F b) (hFO : FO S' F') (hcn : ∀ s, (R.Q.G p).cn s ≤ G'.cn s) (hod : ∀ x, x ∈ (R.Q.T p).od → x ∈ T'.od) : MD S' F' t z (upY Y p y') (R.sP p G' T' Kn' C') kz := by
  have no : ∀ {x o v}, F x = (o, v) → o ≠ 101 + p → ¬ (F x).1 = 101 + p := fun {x o v} e ho q => by
    rw [e] at q
    exact ho q
  have rows : ∀ k, k ∈ mdL → eI S' (z k) = eI S (z k) ∧ eR S' (z k) = eR S (z k) := fun k hk9 => by
    obtain ⟨-, a2, a3, -⟩ := h 1 k hk9
    have := hk.2.1 _ a3.1 (no a2 (by omega))
    exact ⟨this.2.2.2.1, this.2.2.2.2.2⟩
  have kt := hk.2.1 t (h 0).1.1 (no (h 0).2 (by omega))
  intro j
  match j with
  | 0 => exact ⟨hk.isO (h 0).1, (hf _ (h 0).1.1).trans (h 0).2⟩
  | 1 =>
    intro k hk9
    obtain ⟨a1, a2, a3, a4⟩ := h 1 k hk9
    exact ⟨(kt.2.1 _).trans a1, (hf _ a3.1).trans a2, hk.isO a3, (hk.1 _ a3.1).2.2.trans a4⟩
  | 2 =>
    intro q hq
    obtain ⟨a1, a2⟩ := h 2 q hq
    show eR S' (z 0) q = some (upY Y p y' q 0) ∧ RP S' F' (101 + q) (upY Y p y' q) (upF R.Q.G p G' q) (upF R.Q.T p T' q) (upF R.Q.Kn p Kn' q) (upF R.C p C' q)
    rw [(rows 0 (by decide)).2]
    by_cases c : q = p
    · subst c
      have e1 : upY Y q y' q = y' := if_pos rfl
      rw [e1, upF_s, upF_s, upF_s, upF_s]
      exact ⟨a1.trans (congrArg some hy.symm), hg⟩
    · have e1 : upY Y p y' q = Y q := if_neg c
      rw [e1, upF_o c, upF_o c, upF_o c, upF_o c]
      exact ⟨a1, a2.keep hk (fun b hb w => by omega) hf⟩
  | 3 =>
    obtain ⟨a1, a2, a3⟩ := h 3
    refine ⟨(kt.1 1502).trans a1, a2, ?_⟩
    unfold byR
    rw [(rows 1 (by decide)).1]; exact a3
  | 4 =>
    intro k hk9
    rcases h 4 k hk9 with ⟨a1, a2⟩ | ⟨a1, a2, a3, a4, a5, a6, a7, a8⟩
    · exact Or.inl ⟨a1, by rw [(rows 3 (by decide)).2]; exact a2⟩
    · refine Or.inr ⟨a1, by rw [(rows 3 (by decide)).2]; exact a2, hk.isO a3, (hk.1 _ a3.1).2.2.trans a4, (hf _ a3.1).trans a5, by rw [(rows 4 (by decide)).1]; exact a6, a7, ?_⟩
      unfold byR
      rw [(hk.2.1 _ a3.1 (no a5 (by omega))).2.2.2.1]
      exact a8
  | 5 =>
    intro b hb
    rw [(rows 5 (by decide)).1, (rows 6 (by decide)).1]
    obtain ⟨a1, a2⟩ := h 5 b hb
    refine ⟨a1, fun q hq => ⟨(a2 q hq).1, fun s hs => ⟨((a2 q hq).2 s hs).1, ?_⟩⟩⟩
    show R.M b s ≤ (upF R.Q.G p G' q).cn s
    by_cases c : q = p
    · subst c; rw [upF_s]; exact Nat.le_trans ((a2 q hq).2 s hs).2 (hcn s)
    · rw [upF_o c]; exact ((a2 q hq).2 s hs).2
  | 6 =>
    obtain ⟨a1, a2, a3⟩ := h 6
    rw [MDf, (rows 7 (by decide)).1]
    exact ⟨(kt.1 1508).trans a1, a2, a3⟩
  | 7 =>
    obtain ⟨a1, a2⟩ := h 7
    rw [MDf, (rows 9 (by decide)).1]
    exact ⟨(kt.1 1510).trans a1, a2⟩
  | 8 =>
    intro a ha
    rw [(rows 11 (by decide)).1, (rows 12 (by decide)).1]
    obtain ⟨a1, a2⟩ := h 8 a ha
    refine ⟨a1, fun q hq => ⟨(a2 q hq).1, (a2 q hq).2.1, fun k hk9 => ?_⟩⟩
    show k + 1 ∈ (upF R.Q.T p T' q).od
    by_cases c : q = p
    · subst c; rw [upF_s]; exact hod _ ((a2 q hq).2.2 k hk9)
    · rw [upF_o c]; exact (a2 q hq).2.2 k hk9
  | 9 =>
    obtain ⟨a1, a2, a3, a4⟩ := h 9
    exact ⟨(kt.1 1513).trans a1, a2, (kt.1 1514).trans a3, a4⟩
  | 10 =>
    intro k hk9
    obtain ⟨a1, a2, a3, B, a4⟩ := h 10 k hk9
    exact ⟨(kt.2.1 _).trans a1, (hf _ a4.1.1).trans a2, (hf _ a4.2.2.1.1).trans a3, B, a4.kp hk (no a2 (by omega)) (no a3 (by omega))⟩
  | 11 => exact h 11
  | 12 => exact hFO
  | n + 13 => trivial
theorem upY_own (Y : Nat → Nat → Nat) (p : Nat) : upY Y p (Y p) = Y := by
  funext q
  unfold upY
  split
  · next h => rw [h]
  · rfl
/-- a call is noted -/
theorem RP.nt {S S' : MM} {F : Nat → Nat × Nat} {i : Nat} {y : Nat → Nat} {G : Gr} {T : Tr} {Kn : Nat → Nat → Nat} {C : List (Bool × Nat × Nat)} {b : Bool} {f n : Nat} (h : RP S F i y G T Kn C) (hC : C.length < 8192) (hR : RS S' F i y (updZ (fun k => mI S (1300 + k) (y 0)) 26 (nI (C.length + 1))) (updF (updF (updF (fun k => eI S (y k)) 23 (upd (eI S (y 23)) C.length (bI b))) 24 (upd (eI S (y 24)) C.length (nI f))) 25 (upd (eI S (y 25)) C.length (nI n))) (fun s => mN S (y (100 + s)))) (hk : Keep (fun c => F c = (i, 1) ∨ F c = (i, 23) ∨ F c = (i, 24) ∨ F c = (i, 25)) S S') : RP S' F i y G T Kn (C ++ [(b, f, n)]) := by
  obtain ⟨hG, hn, hc⟩ := h
  have hm : ∀ j, RGm (updZ (fun k => mI S (1300 + k) (y 0)) 26 (nI (C.length + 1))) (updF (updF (updF (fun k => eI S (y k)) 23 (upd (eI S (y 23)) C.length (bI b))) 24 (upd (eI S (y 24)) C.length (nI f))) 25 (upd (eI S (y 25)) C.length (nI n))) (fun s => mN S (y (100 + s))) G T j := by
    have h0 := hG.rm
    have ee : ∀ k, k ≠ 23 → k ≠ 24 → k ≠ 25 → updF (updF (updF (fun k => eI S (y k)) 23 (upd (eI S (y 23)) C.length (bI b))) 24 (upd (eI S (y 24)) C.length (nI f))) 25 (upd (eI S (y 25)) C.length (nI n)) k = eI S (y k) := fun k a b c => by
      unfold updF
      rw [if_neg c, if_neg b, if_neg a]
    intro j
    match j with
    | 0 => trivial
    | 1 => trivial
    | 2 => exact h0 2
    | 3 => exact h0 3
    | 4 => intro s hs; rw [ee (100 + s) (by omega) (by omega) (by omega)]; exact h0 4 s hs
    | 5 => exact h0 5
    | 6 => exact h0 6
    | 7 => exact h0 7
    | 8 => exact h0 8
    | 9 => exact h0 9
    | 10 => exact h0 10
    | 11 => exact h0 11
    | 12 => exact h0 12
    | n + 13 => trivial
  have r22 := hG.rk (k := 22) (by decide) (by decide) (by decide)
  have k22 := hk.2.1 _ r22.2.2.1.1 (fun q => by
    have q : F (y 22) = (i, 1) ∨ F (y 22) = (i, 23) ∨ F (y 22) = (i, 24) ∨ F (y 22) = (i, 25) := q
    rw [r22.2.1] at q
    rcases q with q | q | q | q <;> (injection q with _ q; omega))
  have gd : ∀ k, k < C.length → (C ++ [(b, f, n)]).getD k (false, 0, 0) = C.getD k (false, 0, 0) := fun k hk9 => by
    rw [List.getD_eq_getElem?_getD, List.getElem?_append_left hk9, List.getD_eq_getElem?_getD]
  refine ⟨hR.rg hm, fun o ho => ?_, ?_, by rw [List.length_append]; show C.length + 1 ≤ 8192; omega, fun k hk9 => ?_⟩
  · obtain ⟨a1, a2, a3, a4, a5⟩ := hn o ho
    rw [k22.2.2.2.2.2, (hk.2.1 _ a2.1 (fun q => by
      have q : F (y (120 + o)) = (i, 1) ∨ F (y (120 + o)) = (i, 23) ∨ F (y (120 + o)) = (i, 24) ∨ F (y (120 + o)) = (i, 25) := q
      rw [a3] at q
      rcases q with q | q | q | q <;> (injection q with _ q; omega))).2.2.2.1]
    exact ⟨a1, hk.isO a2, a3, (hk.1 _ a2.1).2.2.trans a4, a5⟩
  · rw [List.length_append]
    exact hR.f 26
  · rw [List.length_append] at hk9
    have hk9 : k < C.length + 1 := hk9
    rw [hR.e (k := 23) (Or.inl (by decide)), hR.e (k := 24) (Or.inl (by decide)), hR.e (k := 25) (Or.inl (by decide))]
    show upd (eI S (y 23)) C.length (bI b) k = _ ∧ upd (eI S (y 24)) C.length (nI f) k = _ ∧ upd (eI S (y 25)) C.length (nI n) k = _
    rw [upd, upd, upd]
    by_cases c : k = C.length
    · subst c
      rw [if_pos rfl, if_pos rfl, if_pos rfl]
      have e : (C ++ [(b, f, n)]).getD C.length (false, 0, 0) = (b, f, n) := by
        rw [List.getD_eq_getElem?_getD, List.getElem?_append_right (Nat.le_refl _), Nat.sub_self]; rfl
      rw [e]
      exact ⟨rfl, rfl, rfl⟩
    · rw [if_neg c, if_neg c, if_neg c, gd k (by omega)]
      exact hc.2.2 k (by omega)
def ntQ (S S' : MM) (F : Nat → Nat × Nat) (t : Nat) (z : Nat → Nat) (Y : Nat → Nat → Nat) (R : Rb) (kz : Nat → Nat) (p : Nat) (bz : Bool) (f n : Nat) : Prop := MD S' F t z Y (R.sP p (R.Q.G p) (R.Q.T p) (R.Q.Kn p) (if n = 0 then R.C p else R.C p ++ [(bz, f, n)])) kz ∧ Keep (fun c => 100 ≤ (F c).1) S S' ∧ mI S' 1551 t = mI S 1551 t
def T_rnt : TR := fun Rc Rs av S cs sl K _Kx => match av with
  | [.inr (.inr t_o), .inr (.inr g_o), .inl bv, .inl f_v, .inl n_v] => pa t_o fun t => (pa g_o fun g => (∃ (f : Nat), f_v = nI f ∧ (∃ (n : Nat), n_v = nI n ∧ (∃ (F : Nat → Nat × Nat) (z : Nat → Nat) (Y : Nat → Nat → Nat) (R : Rb) (kz : Nat → Nat) (p : Nat) (bz : Bool), (MD S F t z Y R kz ∧ p < 4 ∧ g = Y p 0 ∧ bv = bI bz ∧ (R.C p).length < 8192 ∧ n ≤ 8192) ∧ cs ≤ Rc ∧ sl ≤ Rs ∧ (∀ (S' : MM), (ntQ S S' F t z Y R kz p bz f n) → K none S' cs sl)))))
  | _ => False
def sp_rnt (t : Nat) (g : Nat) (bv : Int32) (f : Nat) (n : Nat) (F : Nat → Nat × Nat) (z : Nat → Nat) (Y : Nat → Nat → Nat) (R : Rb) (kz : Nat → Nat) (p : Nat) (bz : Bool) : Sp := (fun av S => av = [.inr (.inr (some t)), .inr (.inr (some g)), .inl bv, .inl (nI f), .inl (nI n)] ∧ (MD S F t z Y R kz ∧ p < 4 ∧ g = Y p 0 ∧ bv = bI bz ∧ (R.C p).length < 8192 ∧ n ≤ 8192), fun _ S => 0, fun _ S => 0, fun _ S rv S' => rv = none ∧ (ntQ S S' F t z Y R kz p bz f n), fun _ _ _ _ => False)
def tX14_note : CD := [(0, .iload 4), (2, .ifCond .ne 4), (5, .return_), (6, .aload_n 1), (7, .getfield 190), (10, .aload_n 1), (11, .getfield 194), (14, .iload_n 2), (15, .bastore), (16, .aload_n 1), (17, .getfield 197), (20, .aload_n 1), (21, .getfield 194), (24, .iload_n 3), (25, .iastore), (26, .aload_n 1), (27, .getfield 200), (30, .aload_n 1), (31, .getfield 194), (34, .iload 4), (36, .iastore), (37, .aload_n 1), (38, .dup), (39, .getfield 194), (42, .iconst 1), (43, .iadd), (44, .putfield 194), (47, .return_)]
set_option maxRecDepth 100000 in
theorem kX14_note : chk cX14_note tX14_note = true := by decide +kernel

set_option maxRecDepth 100000 in
set_option maxHeartbeats 2000000 in
theorem c_rnt (l : Launch) : ∀ (t : Nat) (g : Nat) (bv : Int32) (f : Nat) (n : Nat) (F : Nat → Nat × Nat) (z : Nat → Nat) (Y : Nat → Nat → Nat) (R : Rb) (kz : Nat → Nat) (p : Nat) (bz : Bool), Ct l yX14_note cX14_note 5 none 0 0 (sp_rnt t g bv f n F z Y R kz p bz) := by
  intro t g bv f n F z Y R kz p bz
  refine Ct.of (fX14, nX14, aX14, iX14, lX14, [], qX14, gX14, []) false tX14_note (fun _ _ _ => none) (by decide) (by decide) kX14_note ⟨_, _, rfl⟩ fX14_ok nX14_ok aX14_ok iX14_ok lX14_ok (fun _ _ _ _ _ _ _ _ _ _ _ _ _ _ _ _ _ _ => no_all) qX14_ok gX14_ok rfl ?_ ?_
  · rintro _ S ⟨rfl, hp⟩
    refine ⟨Nat.le_of_ble_eq_true rfl, 300, ?_⟩
    show ((¬ (nI n) = 0 → (isO S 13 g ∧ (isO S 13 g ∧ (pa (mR S 1323 g) fun a_1 => ((isO S 16 a_1 ∧ inR S a_1 (mI S 1326 g) ∧ (isO (rI S a_1 (upd (eI S a_1) (mI S 1326 g).toNatClampNeg bv.toInt8.toInt32)) 13 g ∧ (isO (rI S a_1 (upd (eI S a_1) (mI S 1326 g).toNatClampNeg bv.toInt8.toInt32)) 13 g ∧ (pa (mR (rI S a_1 (upd (eI S a_1) (mI S 1326 g).toNatClampNeg bv.toInt8.toInt32)) 1324 g) fun a_2 => isO (rI S a_1 (upd (eI S a_1) (mI S 1326 g).toNatClampNeg bv.toInt8.toInt32)) 17 a_2 ∧ inR (rI S a_1 (upd (eI S a_1) (mI S 1326 g).toNatClampNeg bv.toInt8.toInt32)) a_2 (mI (rI S a_1 (upd (eI S a_1) (mI S 1326 g).toNatClampNeg bv.toInt8.toInt32)) 1326 g) ∧ (isO (rI (rI S a_1 (upd (eI S a_1) (mI S 1326 g).toNatClampNeg bv.toInt8.toInt32)) a_2 (upd (eI (rI S a_1 (upd (eI S a_1) (mI S 1326 g).toNatClampNeg bv.toInt8.toInt32)) a_2) (mI (rI S a_1 (upd (eI S a_1) (mI S 1326 g).toNatClampNeg bv.toInt8.toInt32)) 1326 g).toNatClampNeg (nI f))) 13 g ∧ (isO (rI (rI S a_1 (upd (eI S a_1) (mI S 1326 g).toNatClampNeg bv.toInt8.toInt32)) a_2 (upd (eI (rI S a_1 (upd (eI S a_1) (mI S 1326 g).toNatClampNeg bv.toInt8.toInt32)) a_2) (mI (rI S a_1 (upd (eI S a_1) (mI S 1326 g).toNatClampNeg bv.toInt8.toInt32)) 1326 g).toNatClampNeg (nI f))) 13 g ∧ (pa (mR (rI (rI S a_1 (upd (eI S a_1) (mI S 1326 g).toNatClampNeg bv.toInt8.toInt32)) a_2 (upd (eI (rI S a_1 (upd (eI S a_1) (mI S 1326 g).toNatClampNeg bv.toInt8.toInt32)) a_2) (mI (rI S a_1 (upd (eI S a_1) (mI S 1326 g).toNatClampNeg bv.toInt8.toInt32)) 1326 g).toNatClampNeg (nI f))) 1325 g) fun a_3 => isO (rI (rI S a_1 (upd (eI S a_1) (mI S 1326 g).toNatClampNeg bv.toInt8.toInt32)) a_2 (upd (eI (rI S a_1 (upd (eI S a_1) (mI S 1326 g).toNatClampNeg bv.toInt8.toInt32)) a_2) (mI (rI S a_1 (upd (eI S a_1) (mI S 1326 g).toNatClampNeg bv.toInt8.toInt32)) 1326 g).toNatClampNeg (nI f))) 17 a_3 ∧ inR (rI (rI S a_1 (upd (eI S a_1) (mI S 1326 g).toNatClampNeg bv.toInt8.toInt32)) a_2 (upd (eI (rI S a_1 (upd (eI S a_1) (mI S 1326 g).toNatClampNeg bv.toInt8.toInt32)) a_2) (mI (rI S a_1 (upd (eI S a_1) (mI S 1326 g).toNatClampNeg bv.toInt8.toInt32)) 1326 g).toNatClampNeg (nI f))) a_3 (mI (rI (rI S a_1 (upd (eI S a_1) (mI S 1326 g).toNatClampNeg bv.toInt8.toInt32)) a_2 (upd (eI (rI S a_1 (upd (eI S a_1) (mI S 1326 g).toNatClampNeg bv.toInt8.toInt32)) a_2) (mI (rI S a_1 (upd (eI S a_1) (mI S 1326 g).toNatClampNeg bv.toInt8.toInt32)) 1326 g).toNatClampNeg (nI f))) 1326 g) ∧ (isO (rI (rI (rI S a_1 (upd (eI S a_1) (mI S 1326 g).toNatClampNeg bv.toInt8.toInt32)) a_2 (upd (eI (rI S a_1 (upd (eI S a_1) (mI S 1326 g).toNatClampNeg bv.toInt8.toInt32)) a_2) (mI (rI S a_1 (upd (eI S a_1) (mI S 1326 g).toNatClampNeg bv.toInt8.toInt32)) 1326 g).toNatClampNeg (nI f))) a_3 (upd (eI (rI (rI S a_1 (upd (eI S a_1) (mI S 1326 g).toNatClampNeg bv.toInt8.toInt32)) a_2 (upd (eI (rI S a_1 (upd (eI S a_1) (mI S 1326 g).toNatClampNeg bv.toInt8.toInt32)) a_2) (mI (rI S a_1 (upd (eI S a_1) (mI S 1326 g).toNatClampNeg bv.toInt8.toInt32)) 1326 g).toNatClampNeg (nI f))) a_3) (mI (rI (rI S a_1 (upd (eI S a_1) (mI S 1326 g).toNatClampNeg bv.toInt8.toInt32)) a_2 (upd (eI (rI S a_1 (upd (eI S a_1) (mI S 1326 g).toNatClampNeg bv.toInt8.toInt32)) a_2) (mI (rI S a_1 (upd (eI S a_1) (mI S 1326 g).toNatClampNeg bv.toInt8.toInt32)) 1326 g).toNatClampNeg (nI f))) 1326 g).toNatClampNeg (nI n))) 13 g ∧ (True ∧ (isO (rI (rI (rI S a_1 (upd (eI S a_1) (mI S 1326 g).toNatClampNeg bv.toInt8.toInt32)) a_2 (upd (eI (rI S a_1 (upd (eI S a_1) (mI S 1326 g).toNatClampNeg bv.toInt8.toInt32)) a_2) (mI (rI S a_1 (upd (eI S a_1) (mI S 1326 g).toNatClampNeg bv.toInt8.toInt32)) 1326 g).toNatClampNeg (nI f))) a_3 (upd (eI (rI (rI S a_1 (upd (eI S a_1) (mI S 1326 g).toNatClampNeg bv.toInt8.toInt32)) a_2 (upd (eI (rI S a_1 (upd (eI S a_1) (mI S 1326 g).toNatClampNeg bv.toInt8.toInt32)) a_2) (mI (rI S a_1 (upd (eI S a_1) (mI S 1326 g).toNatClampNeg bv.toInt8.toInt32)) 1326 g).toNatClampNeg (nI f))) a_3) (mI (rI (rI S a_1 (upd (eI S a_1) (mI S 1326 g).toNatClampNeg bv.toInt8.toInt32)) a_2 (upd (eI (rI S a_1 (upd (eI S a_1) (mI S 1326 g).toNatClampNeg bv.toInt8.toInt32)) a_2) (mI (rI S a_1 (upd (eI S a_1) (mI S 1326 g).toNatClampNeg bv.toInt8.toInt32)) 1326 g).toNatClampNeg (nI f))) 1326 g).toNatClampNeg (nI n))) 13 g ∧ (([] : List MV) = [] ∧ mret none (sp_rnt t g bv f n F z Y R kz p bz) [.inr (.inr (some t)), .inr (.inr (some g)), .inl bv, .inl (nI f), .inl (nI n)] S none (sI (rI (rI (rI S a_1 (upd (eI S a_1) (mI S 1326 g).toNatClampNeg bv.toInt8.toInt32)) a_2 (upd (eI (rI S a_1 (upd (eI S a_1) (mI S 1326 g).toNatClampNeg bv.toInt8.toInt32)) a_2) (mI (rI S a_1 (upd (eI S a_1) (mI S 1326 g).toNatClampNeg bv.toInt8.toInt32)) 1326 g).toNatClampNeg (nI f))) a_3 (upd (eI (rI (rI S a_1 (upd (eI S a_1) (mI S 1326 g).toNatClampNeg bv.toInt8.toInt32)) a_2 (upd (eI (rI S a_1 (upd (eI S a_1) (mI S 1326 g).toNatClampNeg bv.toInt8.toInt32)) a_2) (mI (rI S a_1 (upd (eI S a_1) (mI S 1326 g).toNatClampNeg bv.toInt8.toInt32)) 1326 g).toNatClampNeg (nI f))) a_3) (mI (rI (rI S a_1 (upd (eI S a_1) (mI S 1326 g).toNatClampNeg bv.toInt8.toInt32)) a_2 (upd (eI (rI S a_1 (upd (eI S a_1) (mI S 1326 g).toNatClampNeg bv.toInt8.toInt32)) a_2) (mI (rI S a_1 (upd (eI S a_1) (mI S 1326 g).toNatClampNeg bv.toInt8.toInt32)) 1326 g).toNatClampNeg (nI f))) 1326 g).toNatClampNeg (nI n))) 1326 g ((mI (rI (rI (rI S a_1 (upd (eI S a_1) (mI S 1326 g).toNatClampNeg bv.toInt8.toInt32)) a_2 (upd (eI (rI S a_1 (upd (eI S a_1) (mI S 1326 g).toNatClampNeg bv.toInt8.toInt32)) a_2) (mI (rI S a_1 (upd (eI S a_1) (mI S 1326 g).toNatClampNeg bv.toInt8.toInt32)) 1326 g).toNatClampNeg (nI f))) a_3 (upd (eI (rI (rI S a_1 (upd (eI S a_1) (mI S 1326 g).toNatClampNeg bv.toInt8.toInt32)) a_2 (upd (eI (rI S a_1 (upd (eI S a_1) (mI S 1326 g).toNatClampNeg bv.toInt8.toInt32)) a_2) (mI (rI S a_1 (upd (eI S a_1) (mI S 1326 g).toNatClampNeg bv.toInt8.toInt32)) 1326 g).toNatClampNeg (nI f))) a_3) (mI (rI (rI S a_1 (upd (eI S a_1) (mI S 1326 g).toNatClampNeg bv.toInt8.toInt32)) a_2 (upd (eI (rI S a_1 (upd (eI S a_1) (mI S 1326 g).toNatClampNeg bv.toInt8.toInt32)) a_2) (mI (rI S a_1 (upd (eI S a_1) (mI S 1326 g).toNatClampNeg bv.toInt8.toInt32)) 1326 g).toNatClampNeg (nI f))) 1326 g).toNatClampNeg (nI n))) 1326 g) + (1 : Int32))) 0 0))))))))))) ∨ (isO S 20 a_1 ∧ inR S a_1 (mI S 1326 g) ∧ (isO (rI S a_1 (upd (eI S a_1) (mI S 1326 g).toNatClampNeg (vp_nar .boolean bv))) 13 g ∧ (isO (rI S a_1 (upd (eI S a_1) (mI S 1326 g).toNatClampNeg (vp_nar .boolean bv))) 13 g ∧ (pa (mR (rI S a_1 (upd (eI S a_1) (mI S 1326 g).toNatClampNeg (vp_nar .boolean bv))) 1324 g) fun a_4 => isO (rI S a_1 (upd (eI S a_1) (mI S 1326 g).toNatClampNeg (vp_nar .boolean bv))) 17 a_4 ∧ inR (rI S a_1 (upd (eI S a_1) (mI S 1326 g).toNatClampNeg (vp_nar .boolean bv))) a_4 (mI (rI S a_1 (upd (eI S a_1) (mI S 1326 g).toNatClampNeg (vp_nar .boolean bv))) 1326 g) ∧ (isO (rI (rI S a_1 (upd (eI S a_1) (mI S 1326 g).toNatClampNeg (vp_nar .boolean bv))) a_4 (upd (eI (rI S a_1 (upd (eI S a_1) (mI S 1326 g).toNatClampNeg (vp_nar .boolean bv))) a_4) (mI (rI S a_1 (upd (eI S a_1) (mI S 1326 g).toNatClampNeg (vp_nar .boolean bv))) 1326 g).toNatClampNeg (nI f))) 13 g ∧ (isO (rI (rI S a_1 (upd (eI S a_1) (mI S 1326 g).toNatClampNeg (vp_nar .boolean bv))) a_4 (upd (eI (rI S a_1 (upd (eI S a_1) (mI S 1326 g).toNatClampNeg (vp_nar .boolean bv))) a_4) (mI (rI S a_1 (upd (eI S a_1) (mI S 1326 g).toNatClampNeg (vp_nar .boolean bv))) 1326 g).toNatClampNeg (nI f))) 13 g ∧ (pa (mR (rI (rI S a_1 (upd (eI S a_1) (mI S 1326 g).toNatClampNeg (vp_nar .boolean bv))) a_4 (upd (eI (rI S a_1 (upd (eI S a_1) (mI S 1326 g).toNatClampNeg (vp_nar .boolean bv))) a_4) (mI (rI S a_1 (upd (eI S a_1) (mI S 1326 g).toNatClampNeg (vp_nar .boolean bv))) 1326 g).toNatClampNeg (nI f))) 1325 g) fun a_5 => isO (rI (rI S a_1 (upd (eI S a_1) (mI S 1326 g).toNatClampNeg (vp_nar .boolean bv))) a_4 (upd (eI (rI S a_1 (upd (eI S a_1) (mI S 1326 g).toNatClampNeg (vp_nar .boolean bv))) a_4) (mI (rI S a_1 (upd (eI S a_1) (mI S 1326 g).toNatClampNeg (vp_nar .boolean bv))) 1326 g).toNatClampNeg (nI f))) 17 a_5 ∧ inR (rI (rI S a_1 (upd (eI S a_1) (mI S 1326 g).toNatClampNeg (vp_nar .boolean bv))) a_4 (upd (eI (rI S a_1 (upd (eI S a_1) (mI S 1326 g).toNatClampNeg (vp_nar .boolean bv))) a_4) (mI (rI S a_1 (upd (eI S a_1) (mI S 1326 g).toNatClampNeg (vp_nar .boolean bv))) 1326 g).toNatClampNeg (nI f))) a_5 (mI (rI (rI S a_1 (upd (eI S a_1) (mI S 1326 g).toNatClampNeg (vp_nar .boolean bv))) a_4 (upd (eI (rI S a_1 (upd (eI S a_1) (mI S 1326 g).toNatClampNeg (vp_nar .boolean bv))) a_4) (mI (rI S a_1 (upd (eI S a_1) (mI S 1326 g).toNatClampNeg (vp_nar .boolean bv))) 1326 g).toNatClampNeg (nI f))) 1326 g) ∧ (isO (rI (rI (rI S a_1 (upd (eI S a_1) (mI S 1326 g).toNatClampNeg (vp_nar .boolean bv))) a_4 (upd (eI (rI S a_1 (upd (eI S a_1) (mI S 1326 g).toNatClampNeg (vp_nar .boolean bv))) a_4) (mI (rI S a_1 (upd (eI S a_1) (mI S 1326 g).toNatClampNeg (vp_nar .boolean bv))) 1326 g).toNatClampNeg (nI f))) a_5 (upd (eI (rI (rI S a_1 (upd (eI S a_1) (mI S 1326 g).toNatClampNeg (vp_nar .boolean bv))) a_4 (upd (eI (rI S a_1 (upd (eI S a_1) (mI S 1326 g).toNatClampNeg (vp_nar .boolean bv))) a_4) (mI (rI S a_1 (upd (eI S a_1) (mI S 1326 g).toNatClampNeg (vp_nar .boolean bv))) 1326 g).toNatClampNeg (nI f))) a_5) (mI (rI (rI S a_1 (upd (eI S a_1) (mI S 1326 g).toNatClampNeg (vp_nar .boolean bv))) a_4 (upd (eI (rI S a_1 (upd (eI S a_1) (mI S 1326 g).toNatClampNeg (vp_nar .boolean bv))) a_4) (mI (rI S a_1 (upd (eI S a_1) (mI S 1326 g).toNatClampNeg (vp_nar .boolean bv))) 1326 g).toNatClampNeg (nI f))) 1326 g).toNatClampNeg (nI n))) 13 g ∧ (True ∧ (isO (rI (rI (rI S a_1 (upd (eI S a_1) (mI S 1326 g).toNatClampNeg (vp_nar .boolean bv))) a_4 (upd (eI (rI S a_1 (upd (eI S a_1) (mI S 1326 g).toNatClampNeg (vp_nar .boolean bv))) a_4) (mI (rI S a_1 (upd (eI S a_1) (mI S 1326 g).toNatClampNeg (vp_nar .boolean bv))) 1326 g).toNatClampNeg (nI f))) a_5 (upd (eI (rI (rI S a_1 (upd (eI S a_1) (mI S 1326 g).toNatClampNeg (vp_nar .boolean bv))) a_4 (upd (eI (rI S a_1 (upd (eI S a_1) (mI S 1326 g).toNatClampNeg (vp_nar .boolean bv))) a_4) (mI (rI S a_1 (upd (eI S a_1) (mI S 1326 g).toNatClampNeg (vp_nar .boolean bv))) 1326 g).toNatClampNeg (nI f))) a_5) (mI (rI (rI S a_1 (upd (eI S a_1) (mI S 1326 g).toNatClampNeg (vp_nar .boolean bv))) a_4 (upd (eI (rI S a_1 (upd (eI S a_1) (mI S 1326 g).toNatClampNeg (vp_nar .boolean bv))) a_4) (mI (rI S a_1 (upd (eI S a_1) (mI S 1326 g).toNatClampNeg (vp_nar .boolean bv))) 1326 g).toNatClampNeg (nI f))) 1326 g).toNatClampNeg (nI n))) 13 g ∧ (([] : List MV) = [] ∧ mret none (sp_rnt t g bv f n F z Y R kz p bz) [.inr (.inr (some t)), .inr (.inr (some g)), .inl bv, .inl (nI f), .inl (nI n)] S none (sI (rI (rI (rI S a_1 (upd (eI S a_1) (mI S 1326 g).toNatClampNeg (vp_nar .boolean bv))) a_4 (upd (eI (rI S a_1 (upd (eI S a_1) (mI S 1326 g).toNatClampNeg (vp_nar .boolean bv))) a_4) (mI (rI S a_1 (upd (eI S a_1) (mI S 1326 g).toNatClampNeg (vp_nar .boolean bv))) 1326 g).toNatClampNeg (nI f))) a_5 (upd (eI (rI (rI S a_1 (upd (eI S a_1) (mI S 1326 g).toNatClampNeg (vp_nar .boolean bv))) a_4 (upd (eI (rI S a_1 (upd (eI S a_1) (mI S 1326 g).toNatClampNeg (vp_nar .boolean bv))) a_4) (mI (rI S a_1 (upd (eI S a_1) (mI S 1326 g).toNatClampNeg (vp_nar .boolean bv))) 1326 g).toNatClampNeg (nI f))) a_5) (mI (rI (rI S a_1 (upd (eI S a_1) (mI S 1326 g).toNatClampNeg (vp_nar .boolean bv))) a_4 (upd (eI (rI S a_1 (upd (eI S a_1) (mI S 1326 g).toNatClampNeg (vp_nar .boolean bv))) a_4) (mI (rI S a_1 (upd (eI S a_1) (mI S 1326 g).toNatClampNeg (vp_nar .boolean bv))) 1326 g).toNatClampNeg (nI f))) 1326 g).toNatClampNeg (nI n))) 1326 g ((mI (rI (rI (rI S a_1 (upd (eI S a_1) (mI S 1326 g).toNatClampNeg (vp_nar .boolean bv))) a_4 (upd (eI (rI S a_1 (upd (eI S a_1) (mI S 1326 g).toNatClampNeg (vp_nar .boolean bv))) a_4) (mI (rI S a_1 (upd (eI S a_1) (mI S 1326 g).toNatClampNeg (vp_nar .boolean bv))) 1326 g).toNatClampNeg (nI f))) a_5 (upd (eI (rI (rI S a_1 (upd (eI S a_1) (mI S 1326 g).toNatClampNeg (vp_nar .boolean bv))) a_4 (upd (eI (rI S a_1 (upd (eI S a_1) (mI S 1326 g).toNatClampNeg (vp_nar .boolean bv))) a_4) (mI (rI S a_1 (upd (eI S a_1) (mI S 1326 g).toNatClampNeg (vp_nar .boolean bv))) 1326 g).toNatClampNeg (nI f))) a_5) (mI (rI (rI S a_1 (upd (eI S a_1) (mI S 1326 g).toNatClampNeg (vp_nar .boolean bv))) a_4 (upd (eI (rI S a_1 (upd (eI S a_1) (mI S 1326 g).toNatClampNeg (vp_nar .boolean bv))) a_4) (mI (rI S a_1 (upd (eI S a_1) (mI S 1326 g).toNatClampNeg (vp_nar .boolean bv))) 1326 g).toNatClampNeg (nI f))) 1326 g).toNatClampNeg (nI n))) 1326 g) + (1 : Int32))) 0 0)))))))))))))))) ∧ ((nI n) = 0 → (([] : List MV) = [] ∧ mret none (sp_rnt t g bv f n F z Y R kz p bz) [.inr (.inr (some t)), .inr (.inr (some g)), .inl bv, .inl (nI f), .inl (nI n)] S none S 0 0)))
    obtain ⟨h, hp4, rfl, rfl, hC, hn⟩ := hp
    have hRP := (h 2 p hp4).2
    have g := hRP.1
    have e26 : mI S 1326 (Y p 0) = nI (R.C p).length := hRP.2.2.1
    have cC : (nI (R.C p).length).toNatClampNeg = (R.C p).length := nI_clamp (by omega)
    have hv : vp_nar .boolean (bI bz) = bI bz := by cases bz <;> rfl
    have w23 : rwK 23 := Or.inl (by decide)
    have w24 : rwK 24 := Or.inl (by decide)
    have w25 : rwK 25 := Or.inl (by decide)
    have h1 := g.rs.wr w23 cC (bI bz)
    have h2 := h1.wr w24 cC (nI f)
    have h3 := h2.wr w25 cC (nI n)
    have h4 := h3.si 26 (nI ((R.C p).length + 1))
    have r23 := g.rk (k := 23) (by decide) (by decide) (by decide)
    have r24 := g.rk (k := 24) (by decide) (by decide) (by decide)
    have r25 := g.rk (k := 25) (by decide) (by decide) (by decide)
    simp only [mI_rI, e26, hv]
    refine ⟨fun w => ⟨(g 0).1, (g 0).1, pa_i r23.1 (Or.inr ⟨r23.2.2.1, inRn (N := 8192) r23.2.2.2 hC (by decide), (g 0).1, (g 0).1, pa_i r24.1 ⟨r24.2.2.1, inRn (N := 8192) r24.2.2.2 hC (by decide), (g 0).1, (g 0).1, pa_i r25.1 ⟨r25.2.2.1, inRn (N := 8192) r25.2.2.2 hC (by decide), (g 0).1, trivial, (g 0).1, by trivial, ?_⟩⟩⟩)⟩, fun w => ⟨by trivial, ?_⟩⟩
    · have hn0 : n ≠ 0 := fun z => w (by rw [z]; rfl)
      have hkp : Keep (fun c => F c = (101 + p, 1) ∨ F c = (101 + p, 23) ∨ F c = (101 + p, 24) ∨ F c = (101 + p, 25)) S _ := Keep.sI (i := 1326) (v := nI ((R.C p).length + 1)) (P := fun c => F c = (101 + p, 1) ∨ F c = (101 + p, 23) ∨ F c = (101 + p, 24) ∨ F c = (101 + p, 25)) (Keep.rI (f := upd (eI (rI (rI S (Y p 23) (upd (eI S (Y p 23)) (nI (R.C p).length).toNatClampNeg (bI bz))) (Y p 24) (upd (eI (rI S (Y p 23) (upd (eI S (Y p 23)) (nI (R.C p).length).toNatClampNeg (bI bz))) (Y p 24)) (nI (R.C p).length).toNatClampNeg (nI f))) (Y p 25)) (nI (R.C p).length).toNatClampNeg (nI n)) (P := fun c => F c = (101 + p, 1) ∨ F c = (101 + p, 23) ∨ F c = (101 + p, 24) ∨ F c = (101 + p, 25)) (Keep.rI (f := upd (eI (rI S (Y p 23) (upd (eI S (Y p 23)) (nI (R.C p).length).toNatClampNeg (bI bz))) (Y p 24)) (nI (R.C p).length).toNatClampNeg (nI f)) (P := fun c => F c = (101 + p, 1) ∨ F c = (101 + p, 23) ∨ F c = (101 + p, 24) ∨ F c = (101 + p, 25)) (Keep.rI (f := upd (eI S (Y p 23)) (nI (R.C p).length).toNatClampNeg (bI bz)) (P := fun c => F c = (101 + p, 1) ∨ F c = (101 + p, 23) ∨ F c = (101 + p, 24) ∨ F c = (101 + p, 25)) Keep.rf (Or.inr (Or.inl r23.2.1))) (Or.inr (Or.inr (Or.inl r24.2.1)))) (Or.inr (Or.inr (Or.inr r25.2.1)))) (Or.inl (g 0).2)
      have hN := hRP.nt (b := bz) (f := f) (n := n) hC h4 hkp
      have hko := hkp.mono (Q := fun c => (F c).1 = 101 + p) (fun b _ q => by rcases q with q | q | q | q <;> rw [q])
      have hM := h.gp hp4 hko hN rfl (fun _ _ => rfl) (fun b hb => (hko.1 b (h 12 b hb)).1) (fun s => Nat.le_refl _) (fun x hx => hx)
      rw [upY_own] at hM
      rw [nI_1]
      refine ⟨trivial, ⟨rfl, ?_, hko.mono (fun b _ q => by omega), rfl⟩, Nat.le_refl _, Nat.le_refl _⟩
      rw [if_neg hn0]
      exact hM
    · have n0 : n = 0 := (nI_eq (b := 0) (by omega) (by decide)).1 w
      have hM := h.gp hp4 Keep.rf hRP rfl (fun _ _ => rfl) (h 12) (fun s => Nat.le_refl _) (fun x hx => hx)
      rw [upY_own] at hM
      refine ⟨trivial, ⟨rfl, ?_, Keep.rf, rfl⟩, Nat.le_refl _, Nat.le_refl _⟩
      rw [if_pos n0]
      exact hM
  · exact fun _ _ _ _ _ h => by cases h
theorem u_rnt (l : Launch) : Us l yX14_note cX14_note 5 none 0 0 15 T_rnt := by
  intro Rc Rs av S cs sl K Kx h
  unfold T_rnt at h
  split at h
  · rename_i t_o g_o bv f_v n_v
    obtain ⟨t, rfl, h_1⟩ := pa_of h
    obtain ⟨g, rfl, h_2⟩ := pa_of h_1
    obtain ⟨f, rfl, h_3⟩ := h_2
    obtain ⟨n, rfl, h_4⟩ := h_3
    obtain ⟨F, z, Y, R, kz, p, bz, hp, hc, hs, hk⟩ := h_4
    refine ⟨(sp_rnt t g bv f n F z Y R kz p bz), c_rnt l t g bv f n F z Y R kz p bz, fun _ _ h9 => ⟨_, _, h9.1, (h9.2.1 0).1⟩, ⟨rfl, hp⟩, hc, hs, fun S' h8 => by
      obtain ⟨-, h8⟩ := h8
      exact hk _ h8, fun _ _ q => q.elim⟩
  · exact h.elim
