/-! ===== The reference: own events again, the tape read, insert0 ===== -/
def ownR (S S' : MM) (F : Nat → Nat × Nat) (t : Nat) (z : Nat → Nat) (Y : Nat → Nat → Nat) (R' : Rb) (kz : Nat → Nat) : Prop := ∃ F' Y', MD S' F' t z Y' R' kz ∧ (∀ b, b ∈ mL S → F' b = F b) ∧ Keep (fun c => 100 ≤ (F c).1) S S' ∧ mI S' 1551 t = mI S 1551 t ∧ (∀ q, Y' q 0 = Y q 0) ∧ Keep (fun c => c = z 15 ∨ (100 < (F c).1 ∧ (F c).1 < 110)) S S'
def T_row8 : TR := fun Rc Rs av S cs sl K _Kx => match av with
  | [.inr (.inr t_o), .inl p_v] => pa t_o fun t => (∃ (p : Nat), p_v = nI p ∧ (∃ (F : Nat → Nat × Nat) (z : Nat → Nat) (Y : Nat → Nat → Nat) (R : Rb) (kz : Nat → Nat) (s : Nat) (pr : List Nat), (MD S F t z Y R kz ∧ p < 4 ∧ raP (R.Q.G p) (R.Q.T p) p s (R.Q.G p).cn pr) ∧ cs + (ad1 (R.Q.G p) s) ≤ Rc ∧ sl + (ad2 (R.Q.G p) s) ≤ Rs ∧ (∀ (v : Int32) (S' : MM), (v = nI (R.Q.G p).n) ∧ (ownR S S' F t z Y (R.sG p (pGr (eGr (R.Q.G p) s p) s (R.Q.G p).cn pr) (R.Q.T p)) kz) → K (some (.inl v)) S' (cs + (ad1 (R.Q.G p) s)) (sl + (ad2 (R.Q.G p) s)))))
  | _ => False
def sp_row8 (t : Nat) (p : Nat) (F : Nat → Nat × Nat) (z : Nat → Nat) (Y : Nat → Nat → Nat) (R : Rb) (kz : Nat → Nat) (s : Nat) (pr : List Nat) : Sp := (fun av S => av = [.inr (.inr (some t)), .inl (nI p)] ∧ (MD S F t z Y R kz ∧ p < 4 ∧ raP (R.Q.G p) (R.Q.T p) p s (R.Q.G p).cn pr), fun _ S => ad1 (R.Q.G p) s, fun _ S => ad2 (R.Q.G p) s, fun _ S rv S' => ∃ v, rv = (some (.inl v)) ∧ (v = nI (R.Q.G p).n) ∧ (ownR S S' F t z Y (R.sG p (pGr (eGr (R.Q.G p) s p) s (R.Q.G p).cn pr) (R.Q.T p)) kz), fun _ _ _ _ => False)
set_option maxRecDepth 100000 in
set_option maxHeartbeats 2000000 in
theorem c_row8 (l : Launch) : ∀ (t : Nat) (p : Nat) (F : Nat → Nat × Nat) (z : Nat → Nat) (Y : Nat → Nat → Nat) (R : Rb) (kz : Nat → Nat) (s : Nat) (pr : List Nat), Ct l yX14_own cX14_own 2 (some .int) 3 80 (sp_row8 t p F z Y R kz s pr) := by
  intro t p F z Y R kz s pr
  refine Ct.of (fX14, nX14, aX14, iX14, lX14, [(182, 0, 2, 0, T_rall), (186, 0, 4, 1, T_rad)], qX14, gX14, []) false tX14_own (fun _ _ _ => none) (by decide) (by decide) kX14_own ⟨_, _, rfl⟩ fX14_ok nX14_ok aX14_ok iX14_ok lX14_ok (fun p e R s m args below meth c Q D cy z r A C hR1 hR2 => List.forall_mem_cons.mpr ⟨cOK_use (fun _ _ _ _ _ _ _ _ h => let ⟨sp, h1, h2, h3⟩ := u_rall l _ _ _ _ _ _ _ _ h; ⟨sp, cOK_V C h1 vX14_own_182 ⟨by decide, by decide, by decide +kernel⟩ ⟨by rw [hR1]; decide, by rw [hR2]; decide⟩ (k := 13) (T := TX12) (N := 27) rfl (by decide) h2, h3⟩), List.forall_mem_cons.mpr ⟨cOK_use (fun _ _ _ _ _ _ _ _ h => let ⟨sp, h1, h2, h3⟩ := u_rad l _ _ _ _ _ _ _ _ h; ⟨sp, cOK_V C h1 vX14_own_186 ⟨by decide, by decide, by decide +kernel⟩ ⟨by rw [hR1]; decide, by rw [hR2]; decide⟩ (k := 13) (T := TX12) (N := 27) rfl (by decide) h2, h3⟩), fun _ h => absurd h List.not_mem_nil⟩⟩) qX14_ok gX14_ok rfl ?_ ?_
  · rintro _ S ⟨rfl, hp⟩
    refine ⟨Nat.le_of_ble_eq_true rfl, 300, ?_⟩
    show (isO S 15 t ∧ (pa (mR S 1500 t) fun a_1 => a_1 ∈ mL S ∧ ¬ mK S a_1 < 21 ∧ mK S a_1 < 29 ∧ inR S a_1 (nI p) ∧ (isO S 15 t ∧ (0 = 0 ∧ ((pa (eR S a_1 (nI p).toNatClampNeg) fun a_2 => ((pa (mR S 1515 t) fun a_3 => (∃ (F_4 : Nat → Nat × Nat) (i_5 : Nat) (y_6 : Nat → Nat) (G_7 : Gr) (T_8 : Tr), (a_2 = y_6 0 ∧ RG S F_4 i_5 y_6 G_7 T_8 ∧ isO S 19 a_3 ∧ mN S a_3 = 16 ∧ (F_4 a_3).1 ≠ i_5) ∧ 0 ≤ ad1 (R.Q.G p) s ∧ 0 ≤ ad2 (R.Q.G p) s ∧ (∀ (S_9 : MM), (StR S_9 a_3 0 G_7.cn ∧ Keep (fun c => c = a_3) S S_9) → (isO S_9 15 t ∧ (pa (mR S_9 1500 t) fun a_10 => a_10 ∈ mL S_9 ∧ ¬ mK S_9 a_10 < 21 ∧ mK S_9 a_10 < 29 ∧ inR S_9 a_10 (nI p) ∧ (isO S_9 15 t ∧ (0 = 0 ∧ ((pa (eR S_9 a_10 (nI p).toNatClampNeg) fun a_11 => ((pa (mR S_9 1515 t) fun a_12 => (∃ (a_13 : Nat), nI p = nI a_13 ∧ (∃ (o_14 : Nat), (0 : Int32) = nI o_14 ∧ (∃ (F_15 : Nat → Nat × Nat) (i_16 : Nat) (y_17 : Nat → Nat) (G_18 : Gr) (T_19 : Tr) (W_20 : Nat → Nat) (s_21 : Nat) (pr_22 : List Nat), (a_11 = y_17 0 ∧ RG S_9 F_15 i_16 y_17 G_18 T_19 ∧ FO S_9 F_15 ∧ i_16 ≠ 0 ∧ StR S_9 a_12 o_14 W_20 ∧ (F_15 a_12).1 ≠ i_16 ∧ raP G_18 T_19 a_13 s_21 W_20 pr_22) ∧ 0 + (ad1 G_18 s_21) ≤ ad1 (R.Q.G p) s ∧ 0 + (ad2 G_18 s_21) ≤ ad2 (R.Q.G p) s ∧ (∀ (x_24 : Int32) (S_23 : MM), (x_24 = nI G_18.n) ∧ (adQ S_9 S_23 F_15 i_16 y_17 G_18 T_19 a_13 s_21 W_20 pr_22) → (([] : List MV) = [] ∧ mret (some .int) (sp_row8 t p F z Y R kz s pr) [.inr (.inr (some t)), .inl (nI p)] S (some (.inl x_24)) S_23 (0 + (ad1 G_18 s_21)) (0 + (ad2 G_18 s_21)))))))))))))))))))))))))
    obtain ⟨h, hp4, hra⟩ := hp
    have r0 := h 1 0 (by decide)
    have r15 := h 1 15 (by decide)
    have g := (h 2 p hp4).2.1
    have cp : (nI p).toNatClampNeg = p := nI_clamp (by omega)
    have er : eR S (z 0) (nI p).toNatClampNeg = some (Y p 0) := by rw [cp]; exact (h 2 p hp4).1
    have o15 : (F (z 15)).1 ≠ 101 + p := by rw [r15.2.1]; show 100 ≠ 101 + p; omega
    refine ⟨(h 0).1, pa_i r0.1 ⟨r0.2.2.1.1, by rw [r0.2.2.1.2]; decide, by rw [r0.2.2.1.2]; decide, inRn (N := 4) r0.2.2.2 hp4 (by decide), (h 0).1, rfl, pa_i er (pa_i r15.1 ⟨F, 101 + p, Y p, R.Q.G p, R.Q.T p, ⟨rfl, g, r15.2.2.1, r15.2.2.2, o15⟩, Nat.zero_le _, Nat.zero_le _, fun S9 hS => ?_⟩)⟩⟩
    obtain ⟨hst, hk9⟩ := hS
    obtain ⟨h9, h51⟩ := h.scr (k0 := 15) (by decide) (by decide) hk9
    have g9 := (h9 2 p hp4).2.1
    have r0 := h9 1 0 (by decide)
    have r15' := h9 1 15 (by decide)
    have er : eR S9 (z 0) (nI p).toNatClampNeg = some (Y p 0) := by rw [cp]; exact (h9 2 p hp4).1
    refine ⟨(h9 0).1, pa_i r0.1 ⟨r0.2.2.1.1, by rw [r0.2.2.1.2]; decide, by rw [r0.2.2.1.2]; decide, inRn (N := 4) r0.2.2.2 hp4 (by decide), (h9 0).1, rfl, pa_i er (pa_i r15'.1 ⟨p, rfl, 0, rfl, F, 101 + p, Y p, R.Q.G p, R.Q.T p, (R.Q.G p).cn, s, pr, ⟨rfl, g9, h9 12, by omega, hst, o15, hra⟩, by omega, by omega, fun v S16 hQ => ?_⟩)⟩⟩
    obtain ⟨rfl, F', y', q1, q2, q3, q4, q5, -, q7⟩ := hQ
    have hcn : ∀ t, (R.Q.G p).cn t ≤ (pGr (eGr (R.Q.G p) s p) s (R.Q.G p).cn pr).cn t := fun t => by rw [pGr_cn, eGr_cn]; exact Nat.le_add_right _ _
    have hM := h9.gr hp4 q4 q7 q1 q5 q3 q2 hcn (fun x hx => hx)
    have kt := q4.2.1 t (h9 0).1.1 (fun w => by
      have := w.own
      rw [(h9 0).2] at this
      have : 100 = 101 + p := this
      omega)
    refine ⟨rfl, trivial, ⟨_, rfl, rfl, F', _, hM, fun b hb => q3 b (hk9.1 b hb).1, ?_, (kt.1 1551).trans h51, fun q => ?_, ?_⟩, Nat.le_of_eq (Nat.zero_add _), Nat.le_of_eq (Nat.zero_add _)⟩
    · exact Keep.tr (hk9.mono (fun b _ e => by rw [e, r15.2.1]; exact Nat.le_refl _)) (q4.mono (fun b _ e => by rw [e.own]; omega))
    · by_cases c : q = p
      · subst c
        have e1 : upY Y q (fun k => if 116 ≤ k then Y q k else y' k) q = fun k => if 116 ≤ k then Y q k else y' k := if_pos rfl
        rw [e1]
        exact q5 0 (by decide)
      · have e1 : upY Y p (fun k => if 116 ≤ k then Y p k else y' k) q = Y q := if_neg c
        rw [e1]
    · exact Keep.tr (hk9.mono (fun b _ e => Or.inl e)) (q4.mono (fun b _ e => by have := e.own; exact Or.inr (by omega)))
  · exact fun _ _ _ _ _ h => by cases h
theorem u_row8 (l : Launch) : Us l yX14_own cX14_own 2 (some .int) 3 80 15 T_row8 := by
  intro Rc Rs av S cs sl K Kx h
  unfold T_row8 at h
  split at h
  · rename_i t_o p_v
    obtain ⟨t, rfl, h_1⟩ := pa_of h
    obtain ⟨p, rfl, h_2⟩ := h_1
    obtain ⟨F, z, Y, R, kz, s, pr, hp, hc, hs, hk⟩ := h_2
    refine ⟨(sp_row8 t p F z Y R kz s pr), c_row8 l t p F z Y R kz s pr, fun _ _ h9 => ⟨_, _, h9.1, (h9.2.1 0).1⟩, ⟨rfl, hp⟩, hc, hs, fun v9 S' h8 => by
      obtain ⟨v8, h7, h8⟩ := h8
      cases h7
      exact hk _ _ h8, fun _ _ q => q.elim⟩
  · exact h.elim
def T_rnt2 : TR := fun Rc Rs av S cs sl K _Kx => match av with
  | [.inr (.inr t_o), .inr (.inr g_o), .inl bv, .inl f_v, .inl n_v] => pa t_o fun t => (pa g_o fun g => (∃ (f : Nat), f_v = nI f ∧ (∃ (n : Nat), n_v = nI n ∧ (∃ (F : Nat → Nat × Nat) (z : Nat → Nat) (Y : Nat → Nat → Nat) (R : Rb) (kz : Nat → Nat) (p : Nat) (bz : Bool), (MD S F t z Y R kz ∧ p < 4 ∧ g = Y p 0 ∧ bv = bI bz ∧ (n ≠ 0 → (R.C p).length < 8192) ∧ n ≤ 8192) ∧ cs ≤ Rc ∧ sl ≤ Rs ∧ (∀ (S' : MM), (ntQ S S' F t z Y R kz p bz f n ∧ Keep (fun c => (F c).1 = 101 + p) S S') → K none S' cs sl)))))
  | _ => False
def sp_rnt2 (t : Nat) (g : Nat) (bv : Int32) (f : Nat) (n : Nat) (F : Nat → Nat × Nat) (z : Nat → Nat) (Y : Nat → Nat → Nat) (R : Rb) (kz : Nat → Nat) (p : Nat) (bz : Bool) : Sp := (fun av S => av = [.inr (.inr (some t)), .inr (.inr (some g)), .inl bv, .inl (nI f), .inl (nI n)] ∧ (MD S F t z Y R kz ∧ p < 4 ∧ g = Y p 0 ∧ bv = bI bz ∧ (n ≠ 0 → (R.C p).length < 8192) ∧ n ≤ 8192), fun _ S => 0, fun _ S => 0, fun _ S rv S' => rv = none ∧ (ntQ S S' F t z Y R kz p bz f n ∧ Keep (fun c => (F c).1 = 101 + p) S S'), fun _ _ _ _ => False)
set_option maxRecDepth 100000 in
set_option maxHeartbeats 2000000 in
theorem c_rnt2 (l : Launch) : ∀ (t : Nat) (g : Nat) (bv : Int32) (f : Nat) (n : Nat) (F : Nat → Nat × Nat) (z : Nat → Nat) (Y : Nat → Nat → Nat) (R : Rb) (kz : Nat → Nat) (p : Nat) (bz : Bool), Ct l yX14_note cX14_note 5 none 0 0 (sp_rnt2 t g bv f n F z Y R kz p bz) := by
  intro t g bv f n F z Y R kz p bz
  refine Ct.of (fX14, nX14, aX14, iX14, lX14, [], qX14, gX14, []) false tX14_note (fun _ _ _ => none) (by decide) (by decide) kX14_note ⟨_, _, rfl⟩ fX14_ok nX14_ok aX14_ok iX14_ok lX14_ok (fun _ _ _ _ _ _ _ _ _ _ _ _ _ _ _ _ _ _ => no_all) qX14_ok gX14_ok rfl ?_ ?_
  · rintro _ S ⟨rfl, hp⟩
    refine ⟨Nat.le_of_ble_eq_true rfl, 300, ?_⟩
    show ((¬ (nI n) = 0 → (isO S 13 g ∧ (isO S 13 g ∧ (pa (mR S 1323 g) fun a_1 => ((isO S 16 a_1 ∧ inR S a_1 (mI S 1326 g) ∧ (isO (rI S a_1 (upd (eI S a_1) (mI S 1326 g).toNatClampNeg bv.toInt8.toInt32)) 13 g ∧ (isO (rI S a_1 (upd (eI S a_1) (mI S 1326 g).toNatClampNeg bv.toInt8.toInt32)) 13 g ∧ (pa (mR (rI S a_1 (upd (eI S a_1) (mI S 1326 g).toNatClampNeg bv.toInt8.toInt32)) 1324 g) fun a_2 => isO (rI S a_1 (upd (eI S a_1) (mI S 1326 g).toNatClampNeg bv.toInt8.toInt32)) 17 a_2 ∧ inR (rI S a_1 (upd (eI S a_1) (mI S 1326 g).toNatClampNeg bv.toInt8.toInt32)) a_2 (mI (rI S a_1 (upd (eI S a_1) (mI S 1326 g).toNatClampNeg bv.toInt8.toInt32)) 1326 g) ∧ (isO (rI (rI S a_1 (upd (eI S a_1) (mI S 1326 g).toNatClampNeg bv.toInt8.toInt32)) a_2 (upd (eI (rI S a_1 (upd (eI S a_1) (mI S 1326 g).toNatClampNeg bv.toInt8.toInt32)) a_2) (mI (rI S a_1 (upd (eI S a_1) (mI S 1326 g).toNatClampNeg bv.toInt8.toInt32)) 1326 g).toNatClampNeg (nI f))) 13 g ∧ (isO (rI (rI S a_1 (upd (eI S a_1) (mI S 1326 g).toNatClampNeg bv.toInt8.toInt32)) a_2 (upd (eI (rI S a_1 (upd (eI S a_1) (mI S 1326 g).toNatClampNeg bv.toInt8.toInt32)) a_2) (mI (rI S a_1 (upd (eI S a_1) (mI S 1326 g).toNatClampNeg bv.toInt8.toInt32)) 1326 g).toNatClampNeg (nI f))) 13 g ∧ (pa (mR (rI (rI S a_1 (upd (eI S a_1) (mI S 1326 g).toNatClampNeg bv.toInt8.toInt32)) a_2 (upd (eI (rI S a_1 (upd (eI S a_1) (mI S 1326 g).toNatClampNeg bv.toInt8.toInt32)) a_2) (mI (rI S a_1 (upd (eI S a_1) (mI S 1326 g).toNatClampNeg bv.toInt8.toInt32)) 1326 g).toNatClampNeg (nI f))) 1325 g) fun a_3 => isO (rI (rI S a_1 (upd (eI S a_1) (mI S 1326 g).toNatClampNeg bv.toInt8.toInt32)) a_2 (upd (eI (rI S a_1 (upd (eI S a_1) (mI S 1326 g).toNatClampNeg bv.toInt8.toInt32)) a_2) (mI (rI S a_1 (upd (eI S a_1) (mI S 1326 g).toNatClampNeg bv.toInt8.toInt32)) 1326 g).toNatClampNeg (nI f))) 17 a_3 ∧ inR (rI (rI S a_1 (upd (eI S a_1) (mI S 1326 g).toNatClampNeg bv.toInt8.toInt32)) a_2 (upd (eI (rI S a_1 (upd (eI S a_1) (mI S 1326 g).toNatClampNeg bv.toInt8.toInt32)) a_2) (mI (rI S a_1 (upd (eI S a_1) (mI S 1326 g).toNatClampNeg bv.toInt8.toInt32)) 1326 g).toNatClampNeg (nI f))) a_3 (mI (rI (rI S a_1 (upd (eI S a_1) (mI S 1326 g).toNatClampNeg bv.toInt8.toInt32)) a_2 (upd (eI (rI S a_1 (upd (eI S a_1) (mI S 1326 g).toNatClampNeg bv.toInt8.toInt32)) a_2) (mI (rI S a_1 (upd (eI S a_1) (mI S 1326 g).toNatClampNeg bv.toInt8.toInt32)) 1326 g).toNatClampNeg (nI f))) 1326 g) ∧ (isO (rI (rI (rI S a_1 (upd (eI S a_1) (mI S 1326 g).toNatClampNeg bv.toInt8.toInt32)) a_2 (upd (eI (rI S a_1 (upd (eI S a_1) (mI S 1326 g).toNatClampNeg bv.toInt8.toInt32)) a_2) (mI (rI S a_1 (upd (eI S a_1) (mI S 1326 g).toNatClampNeg bv.toInt8.toInt32)) 1326 g).toNatClampNeg (nI f))) a_3 (upd (eI (rI (rI S a_1 (upd (eI S a_1) (mI S 1326 g).toNatClampNeg bv.toInt8.toInt32)) a_2 (upd (eI (rI S a_1 (upd (eI S a_1) (mI S 1326 g).toNatClampNeg bv.toInt8.toInt32)) a_2) (mI (rI S a_1 (upd (eI S a_1) (mI S 1326 g).toNatClampNeg bv.toInt8.toInt32)) 1326 g).toNatClampNeg (nI f))) a_3) (mI (rI (rI S a_1 (upd (eI S a_1) (mI S 1326 g).toNatClampNeg bv.toInt8.toInt32)) a_2 (upd (eI (rI S a_1 (upd (eI S a_1) (mI S 1326 g).toNatClampNeg bv.toInt8.toInt32)) a_2) (mI (rI S a_1 (upd (eI S a_1) (mI S 1326 g).toNatClampNeg bv.toInt8.toInt32)) 1326 g).toNatClampNeg (nI f))) 1326 g).toNatClampNeg (nI n))) 13 g ∧ (True ∧ (isO (rI (rI (rI S a_1 (upd (eI S a_1) (mI S 1326 g).toNatClampNeg bv.toInt8.toInt32)) a_2 (upd (eI (rI S a_1 (upd (eI S a_1) (mI S 1326 g).toNatClampNeg bv.toInt8.toInt32)) a_2) (mI (rI S a_1 (upd (eI S a_1) (mI S 1326 g).toNatClampNeg bv.toInt8.toInt32)) 1326 g).toNatClampNeg (nI f))) a_3 (upd (eI (rI (rI S a_1 (upd (eI S a_1) (mI S 1326 g).toNatClampNeg bv.toInt8.toInt32)) a_2 (upd (eI (rI S a_1 (upd (eI S a_1) (mI S 1326 g).toNatClampNeg bv.toInt8.toInt32)) a_2) (mI (rI S a_1 (upd (eI S a_1) (mI S 1326 g).toNatClampNeg bv.toInt8.toInt32)) 1326 g).toNatClampNeg (nI f))) a_3) (mI (rI (rI S a_1 (upd (eI S a_1) (mI S 1326 g).toNatClampNeg bv.toInt8.toInt32)) a_2 (upd (eI (rI S a_1 (upd (eI S a_1) (mI S 1326 g).toNatClampNeg bv.toInt8.toInt32)) a_2) (mI (rI S a_1 (upd (eI S a_1) (mI S 1326 g).toNatClampNeg bv.toInt8.toInt32)) 1326 g).toNatClampNeg (nI f))) 1326 g).toNatClampNeg (nI n))) 13 g ∧ (([] : List MV) = [] ∧ mret none (sp_rnt2 t g bv f n F z Y R kz p bz) [.inr (.inr (some t)), .inr (.inr (some g)), .inl bv, .inl (nI f), .inl (nI n)] S none (sI (rI (rI (rI S a_1 (upd (eI S a_1) (mI S 1326 g).toNatClampNeg bv.toInt8.toInt32)) a_2 (upd (eI (rI S a_1 (upd (eI S a_1) (mI S 1326 g).toNatClampNeg bv.toInt8.toInt32)) a_2) (mI (rI S a_1 (upd (eI S a_1) (mI S 1326 g).toNatClampNeg bv.toInt8.toInt32)) 1326 g).toNatClampNeg (nI f))) a_3 (upd (eI (rI (rI S a_1 (upd (eI S a_1) (mI S 1326 g).toNatClampNeg bv.toInt8.toInt32)) a_2 (upd (eI (rI S a_1 (upd (eI S a_1) (mI S 1326 g).toNatClampNeg bv.toInt8.toInt32)) a_2) (mI (rI S a_1 (upd (eI S a_1) (mI S 1326 g).toNatClampNeg bv.toInt8.toInt32)) 1326 g).toNatClampNeg (nI f))) a_3) (mI (rI (rI S a_1 (upd (eI S a_1) (mI S 1326 g).toNatClampNeg bv.toInt8.toInt32)) a_2 (upd (eI (rI S a_1 (upd (eI S a_1) (mI S 1326 g).toNatClampNeg bv.toInt8.toInt32)) a_2) (mI (rI S a_1 (upd (eI S a_1) (mI S 1326 g).toNatClampNeg bv.toInt8.toInt32)) 1326 g).toNatClampNeg (nI f))) 1326 g).toNatClampNeg (nI n))) 1326 g ((mI (rI (rI (rI S a_1 (upd (eI S a_1) (mI S 1326 g).toNatClampNeg bv.toInt8.toInt32)) a_2 (upd (eI (rI S a_1 (upd (eI S a_1) (mI S 1326 g).toNatClampNeg bv.toInt8.toInt32)) a_2) (mI (rI S a_1 (upd (eI S a_1) (mI S 1326 g).toNatClampNeg bv.toInt8.toInt32)) 1326 g).toNatClampNeg (nI f))) a_3 (upd (eI (rI (rI S a_1 (upd (eI S a_1) (mI S 1326 g).toNatClampNeg bv.toInt8.toInt32)) a_2 (upd (eI (rI S a_1 (upd (eI S a_1) (mI S 1326 g).toNatClampNeg bv.toInt8.toInt32)) a_2) (mI (rI S a_1 (upd (eI S a_1) (mI S 1326 g).toNatClampNeg bv.toInt8.toInt32)) 1326 g).toNatClampNeg (nI f))) a_3) (mI (rI (rI S a_1 (upd (eI S a_1) (mI S 1326 g).toNatClampNeg bv.toInt8.toInt32)) a_2 (upd (eI (rI S a_1 (upd (eI S a_1) (mI S 1326 g).toNatClampNeg bv.toInt8.toInt32)) a_2) (mI (rI S a_1 (upd (eI S a_1) (mI S 1326 g).toNatClampNeg bv.toInt8.toInt32)) 1326 g).toNatClampNeg (nI f))) 1326 g).toNatClampNeg (nI n))) 1326 g) + (1 : Int32))) 0 0))))))))))) ∨ (isO S 20 a_1 ∧ inR S a_1 (mI S 1326 g) ∧ (isO (rI S a_1 (upd (eI S a_1) (mI S 1326 g).toNatClampNeg (vp_nar .boolean bv))) 13 g ∧ (isO (rI S a_1 (upd (eI S a_1) (mI S 1326 g).toNatClampNeg (vp_nar .boolean bv))) 13 g ∧ (pa (mR (rI S a_1 (upd (eI S a_1) (mI S 1326 g).toNatClampNeg (vp_nar .boolean bv))) 1324 g) fun a_4 => isO (rI S a_1 (upd (eI S a_1) (mI S 1326 g).toNatClampNeg (vp_nar .boolean bv))) 17 a_4 ∧ inR (rI S a_1 (upd (eI S a_1) (mI S 1326 g).toNatClampNeg (vp_nar .boolean bv))) a_4 (mI (rI S a_1 (upd (eI S a_1) (mI S 1326 g).toNatClampNeg (vp_nar .boolean bv))) 1326 g) ∧ (isO (rI (rI S a_1 (upd (eI S a_1) (mI S 1326 g).toNatClampNeg (vp_nar .boolean bv))) a_4 (upd (eI (rI S a_1 (upd (eI S a_1) (mI S 1326 g).toNatClampNeg (vp_nar .boolean bv))) a_4) (mI (rI S a_1 (upd (eI S a_1) (mI S 1326 g).toNatClampNeg (vp_nar .boolean bv))) 1326 g).toNatClampNeg (nI f))) 13 g ∧ (isO (rI (rI S a_1 (upd (eI S a_1) (mI S 1326 g).toNatClampNeg (vp_nar .boolean bv))) a_4 (upd (eI (rI S a_1 (upd (eI S a_1) (mI S 1326 g).toNatClampNeg (vp_nar .boolean bv))) a_4) (mI (rI S a_1 (upd (eI S a_1) (mI S 1326 g).toNatClampNeg (vp_nar .boolean bv))) 1326 g).toNatClampNeg (nI f))) 13 g ∧ (pa (mR (rI (rI S a_1 (upd (eI S a_1) (mI S 1326 g).toNatClampNeg (vp_nar .boolean bv))) a_4 (upd (eI (rI S a_1 (upd (eI S a_1) (mI S 1326 g).toNatClampNeg (vp_nar .boolean bv))) a_4) (mI (rI S a_1 (upd (eI S a_1) (mI S 1326 g).toNatClampNeg (vp_nar .boolean bv))) 1326 g).toNatClampNeg (nI f))) 1325 g) fun a_5 => isO (rI (rI S a_1 (upd (eI S a_1) (mI S 1326 g).toNatClampNeg (vp_nar .boolean bv))) a_4 (upd (eI (rI S a_1 (upd (eI S a_1) (mI S 1326 g).toNatClampNeg (vp_nar .boolean bv))) a_4) (mI (rI S a_1 (upd (eI S a_1) (mI S 1326 g).toNatClampNeg (vp_nar .boolean bv))) 1326 g).toNatClampNeg (nI f))) 17 a_5 ∧ inR (rI (rI S a_1 (upd (eI S a_1) (mI S 1326 g).toNatClampNeg (vp_nar .boolean bv))) a_4 (upd (eI (rI S a_1 (upd (eI S a_1) (mI S 1326 g).toNatClampNeg (vp_nar .boolean bv))) a_4) (mI (rI S a_1 (upd (eI S a_1) (mI S 1326 g).toNatClampNeg (vp_nar .boolean bv))) 1326 g).toNatClampNeg (nI f))) a_5 (mI (rI (rI S a_1 (upd (eI S a_1) (mI S 1326 g).toNatClampNeg (vp_nar .boolean bv))) a_4 (upd (eI (rI S a_1 (upd (eI S a_1) (mI S 1326 g).toNatClampNeg (vp_nar .boolean bv))) a_4) (mI (rI S a_1 (upd (eI S a_1) (mI S 1326 g).toNatClampNeg (vp_nar .boolean bv))) 1326 g).toNatClampNeg (nI f))) 1326 g) ∧ (isO (rI (rI (rI S a_1 (upd (eI S a_1) (mI S 1326 g).toNatClampNeg (vp_nar .boolean bv))) a_4 (upd (eI (rI S a_1 (upd (eI S a_1) (mI S 1326 g).toNatClampNeg (vp_nar .boolean bv))) a_4) (mI (rI S a_1 (upd (eI S a_1) (mI S 1326 g).toNatClampNeg (vp_nar .boolean bv))) 1326 g).toNatClampNeg (nI f))) a_5 (upd (eI (rI (rI S a_1 (upd (eI S a_1) (mI S 1326 g).toNatClampNeg (vp_nar .boolean bv))) a_4 (upd (eI (rI S a_1 (upd (eI S a_1) (mI S 1326 g).toNatClampNeg (vp_nar .boolean bv))) a_4) (mI (rI S a_1 (upd (eI S a_1) (mI S 1326 g).toNatClampNeg (vp_nar .boolean bv))) 1326 g).toNatClampNeg (nI f))) a_5) (mI (rI (rI S a_1 (upd (eI S a_1) (mI S 1326 g).toNatClampNeg (vp_nar .boolean bv))) a_4 (upd (eI (rI S a_1 (upd (eI S a_1) (mI S 1326 g).toNatClampNeg (vp_nar .boolean bv))) a_4) (mI (rI S a_1 (upd (eI S a_1) (mI S 1326 g).toNatClampNeg (vp_nar .boolean bv))) 1326 g).toNatClampNeg (nI f))) 1326 g).toNatClampNeg (nI n))) 13 g ∧ (True ∧ (isO (rI (rI (rI S a_1 (upd (eI S a_1) (mI S 1326 g).toNatClampNeg (vp_nar .boolean bv))) a_4 (upd (eI (rI S a_1 (upd (eI S a_1) (mI S 1326 g).toNatClampNeg (vp_nar .boolean bv))) a_4) (mI (rI S a_1 (upd (eI S a_1) (mI S 1326 g).toNatClampNeg (vp_nar .boolean bv))) 1326 g).toNatClampNeg (nI f))) a_5 (upd (eI (rI (rI S a_1 (upd (eI S a_1) (mI S 1326 g).toNatClampNeg (vp_nar .boolean bv))) a_4 (upd (eI (rI S a_1 (upd (eI S a_1) (mI S 1326 g).toNatClampNeg (vp_nar .boolean bv))) a_4) (mI (rI S a_1 (upd (eI S a_1) (mI S 1326 g).toNatClampNeg (vp_nar .boolean bv))) 1326 g).toNatClampNeg (nI f))) a_5) (mI (rI (rI S a_1 (upd (eI S a_1) (mI S 1326 g).toNatClampNeg (vp_nar .boolean bv))) a_4 (upd (eI (rI S a_1 (upd (eI S a_1) (mI S 1326 g).toNatClampNeg (vp_nar .boolean bv))) a_4) (mI (rI S a_1 (upd (eI S a_1) (mI S 1326 g).toNatClampNeg (vp_nar .boolean bv))) 1326 g).toNatClampNeg (nI f))) 1326 g).toNatClampNeg (nI n))) 13 g ∧ (([] : List MV) = [] ∧ mret none (sp_rnt2 t g bv f n F z Y R kz p bz) [.inr (.inr (some t)), .inr (.inr (some g)), .inl bv, .inl (nI f), .inl (nI n)] S none (sI (rI (rI (rI S a_1 (upd (eI S a_1) (mI S 1326 g).toNatClampNeg (vp_nar .boolean bv))) a_4 (upd (eI (rI S a_1 (upd (eI S a_1) (mI S 1326 g).toNatClampNeg (vp_nar .boolean bv))) a_4) (mI (rI S a_1 (upd (eI S a_1) (mI S 1326 g).toNatClampNeg (vp_nar .boolean bv))) 1326 g).toNatClampNeg (nI f))) a_5 (upd (eI (rI (rI S a_1 (upd (eI S a_1) (mI S 1326 g).toNatClampNeg (vp_nar .boolean bv))) a_4 (upd (eI (rI S a_1 (upd (eI S a_1) (mI S 1326 g).toNatClampNeg (vp_nar .boolean bv))) a_4) (mI (rI S a_1 (upd (eI S a_1) (mI S 1326 g).toNatClampNeg (vp_nar .boolean bv))) 1326 g).toNatClampNeg (nI f))) a_5) (mI (rI (rI S a_1 (upd (eI S a_1) (mI S 1326 g).toNatClampNeg (vp_nar .boolean bv))) a_4 (upd (eI (rI S a_1 (upd (eI S a_1) (mI S 1326 g).toNatClampNeg (vp_nar .boolean bv))) a_4) (mI (rI S a_1 (upd (eI S a_1) (mI S 1326 g).toNatClampNeg (vp_nar .boolean bv))) 1326 g).toNatClampNeg (nI f))) 1326 g).toNatClampNeg (nI n))) 1326 g ((mI (rI (rI (rI S a_1 (upd (eI S a_1) (mI S 1326 g).toNatClampNeg (vp_nar .boolean bv))) a_4 (upd (eI (rI S a_1 (upd (eI S a_1) (mI S 1326 g).toNatClampNeg (vp_nar .boolean bv))) a_4) (mI (rI S a_1 (upd (eI S a_1) (mI S 1326 g).toNatClampNeg (vp_nar .boolean bv))) 1326 g).toNatClampNeg (nI f))) a_5 (upd (eI (rI (rI S a_1 (upd (eI S a_1) (mI S 1326 g).toNatClampNeg (vp_nar .boolean bv))) a_4 (upd (eI (rI S a_1 (upd (eI S a_1) (mI S 1326 g).toNatClampNeg (vp_nar .boolean bv))) a_4) (mI (rI S a_1 (upd (eI S a_1) (mI S 1326 g).toNatClampNeg (vp_nar .boolean bv))) 1326 g).toNatClampNeg (nI f))) a_5) (mI (rI (rI S a_1 (upd (eI S a_1) (mI S 1326 g).toNatClampNeg (vp_nar .boolean bv))) a_4 (upd (eI (rI S a_1 (upd (eI S a_1) (mI S 1326 g).toNatClampNeg (vp_nar .boolean bv))) a_4) (mI (rI S a_1 (upd (eI S a_1) (mI S 1326 g).toNatClampNeg (vp_nar .boolean bv))) 1326 g).toNatClampNeg (nI f))) 1326 g).toNatClampNeg (nI n))) 1326 g) + (1 : Int32))) 0 0)))))))))))))))) ∧ ((nI n) = 0 → (([] : List MV) = [] ∧ mret none (sp_rnt2 t g bv f n F z Y R kz p bz) [.inr (.inr (some t)), .inr (.inr (some g)), .inl bv, .inl (nI f), .inl (nI n)] S none S 0 0)))
    obtain ⟨h, hp4, rfl, rfl, hC0, hn⟩ := hp
    have hCw : ¬ nI n = 0 → (R.C p).length < 8192 := fun w => hC0 (fun z => w (by rw [z]; rfl))
    have hRP := (h 2 p hp4).2
    have g := hRP.1
    have e26 : mI S 1326 (Y p 0) = nI (R.C p).length := hRP.2.2.1
    have cC : (nI (R.C p).length).toNatClampNeg = (R.C p).length := nI_clamp (by have := hRP.2.2.2.1; omega)
    have hv : vp_nar .boolean (bI bz) = bI bz := by cases bz <;> rfl
    have w23 : rwK 23 := Or.inl (by decide)
    have w24 : rwK 24 := Or.inl (by decide)
    have w25 : rwK 25 := Or.inl (by decide)
    have h1 := g.rs.wr w23 cC (bI bz)
    have h2 := h1.wr w24 cC (nI f)
    have h3 := h2.wr w25 cC (nI n)
    have h4 := h3.si 26 (nI ((R.C p).length + 1))
    have r23 := g.rk (k := 23) (by decide) (by decide) (by decide)
    have r24 := g.rk (k := 24) (by decide) (by decide) (by decide)
    have r25 := g.rk (k := 25) (by decide) (by decide) (by decide)
    simp only [mI_rI, e26, hv]
    refine ⟨fun w => ⟨(g 0).1, (g 0).1, pa_i r23.1 (Or.inr ⟨r23.2.2.1, inRn (N := 8192) r23.2.2.2 (hCw w) (by decide), (g 0).1, (g 0).1, pa_i r24.1 ⟨r24.2.2.1, inRn (N := 8192) r24.2.2.2 (hCw w) (by decide), (g 0).1, (g 0).1, pa_i r25.1 ⟨r25.2.2.1, inRn (N := 8192) r25.2.2.2 (hCw w) (by decide), (g 0).1, trivial, (g 0).1, by trivial, ?_⟩⟩⟩)⟩, fun w => ⟨by trivial, ?_⟩⟩
    · have hC := hCw w
      have hn0 : n ≠ 0 := fun z => w (by rw [z]; rfl)
      have hkp : Keep (fun c => F c = (101 + p, 1) ∨ F c = (101 + p, 23) ∨ F c = (101 + p, 24) ∨ F c = (101 + p, 25)) S _ := Keep.sI (i := 1326) (v := nI ((R.C p).length + 1)) (P := fun c => F c = (101 + p, 1) ∨ F c = (101 + p, 23) ∨ F c = (101 + p, 24) ∨ F c = (101 + p, 25)) (Keep.rI (f := upd (eI (rI (rI S (Y p 23) (upd (eI S (Y p 23)) (nI (R.C p).length).toNatClampNeg (bI bz))) (Y p 24) (upd (eI (rI S (Y p 23) (upd (eI S (Y p 23)) (nI (R.C p).length).toNatClampNeg (bI bz))) (Y p 24)) (nI (R.C p).length).toNatClampNeg (nI f))) (Y p 25)) (nI (R.C p).length).toNatClampNeg (nI n)) (P := fun c => F c = (101 + p, 1) ∨ F c = (101 + p, 23) ∨ F c = (101 + p, 24) ∨ F c = (101 + p, 25)) (Keep.rI (f := upd (eI (rI S (Y p 23) (upd (eI S (Y p 23)) (nI (R.C p).length).toNatClampNeg (bI bz))) (Y p 24)) (nI (R.C p).length).toNatClampNeg (nI f)) (P := fun c => F c = (101 + p, 1) ∨ F c = (101 + p, 23) ∨ F c = (101 + p, 24) ∨ F c = (101 + p, 25)) (Keep.rI (f := upd (eI S (Y p 23)) (nI (R.C p).length).toNatClampNeg (bI bz)) (P := fun c => F c = (101 + p, 1) ∨ F c = (101 + p, 23) ∨ F c = (101 + p, 24) ∨ F c = (101 + p, 25)) Keep.rf (Or.inr (Or.inl r23.2.1))) (Or.inr (Or.inr (Or.inl r24.2.1)))) (Or.inr (Or.inr (Or.inr r25.2.1)))) (Or.inl (g 0).2)
      have hN := hRP.nt (b := bz) (f := f) (n := n) hC h4 hkp
      have hko := hkp.mono (Q := fun c => (F c).1 = 101 + p) (fun b _ q => by rcases q with q | q | q | q <;> rw [q])
      have hM := h.gp hp4 hko hN rfl (fun _ _ => rfl) (fun b hb => (hko.1 b (h 12 b hb)).1) (fun s => Nat.le_refl _) (fun x hx => hx)
      rw [upY_own] at hM
      rw [nI_1]
      refine ⟨trivial, ⟨rfl, ⟨?_, hko.mono (fun b _ q => by omega), rfl⟩, hko⟩, Nat.le_refl _, Nat.le_refl _⟩
      rw [if_neg hn0]
      exact hM
    · have n0 : n = 0 := (nI_eq (b := 0) (by omega) (by decide)).1 w
      have hM := h.gp hp4 Keep.rf hRP rfl (fun _ _ => rfl) (h 12) (fun s => Nat.le_refl _) (fun x hx => hx)
      rw [upY_own] at hM
      refine ⟨trivial, ⟨rfl, ⟨?_, Keep.rf, rfl⟩, Keep.rf⟩, Nat.le_refl _, Nat.le_refl _⟩
      rw [if_pos n0]
      exact hM
  · exact fun _ _ _ _ _ h => by cases h
theorem u_rnt2 (l : Launch) : Us l yX14_note cX14_note 5 none 0 0 15 T_rnt2 := by
  intro Rc Rs av S cs sl K Kx h
  unfold T_rnt2 at h
  split at h
  · rename_i t_o g_o bv f_v n_v
    obtain ⟨t, rfl, h_1⟩ := pa_of h
    obtain ⟨g, rfl, h_2⟩ := pa_of h_1
    obtain ⟨f, rfl, h_3⟩ := h_2
    obtain ⟨n, rfl, h_4⟩ := h_3
    obtain ⟨F, z, Y, R, kz, p, bz, hp, hc, hs, hk⟩ := h_4
    refine ⟨(sp_rnt2 t g bv f n F z Y R kz p bz), c_rnt2 l t g bv f n F z Y R kz p bz, fun _ _ h9 => ⟨_, _, h9.1, (h9.2.1 0).1⟩, ⟨rfl, hp⟩, hc, hs, fun S' h8 => by
      obtain ⟨-, h8⟩ := h8
      exact hk _ h8, fun _ _ q => q.elim⟩
  · exact h.elim
def rtE (R : Rb) : Rb := R.sQ (R.Q.sTp [])
def tpQ8 (S S' : MM) (F : Nat → Nat × Nat) (t : Nat) (z : Nat → Nat) (Y : Nat → Nat → Nat) (R : Rb) (kz : Nat → Nat) : Prop := MD S' F t z Y (rtE R) kz ∧ Keep (fun c => c = t ∨ c = z 17) S S' ∧ mI S' 1551 t = mI S 1551 t
def T_rrtp : TR := fun Rc Rs av S cs sl K Kx => match av with
  | [.inr (.inr t_o)] => pa t_o fun t => (∃ (F : Nat → Nat × Nat) (z : Nat → Nat) (Y : Nat → Nat → Nat) (R : Rb) (kz : Nat → Nat), (MD S F t z Y R kz) ∧ cs + 1 ≤ Rc ∧ sl + 6 ≤ Rs ∧ ((∀ (S' : MM), (tpQ8 S S' F t z Y R kz ∧ ∃ L, syms R.Q.tp = some L ∧ txP S' t z L) → K none S' (cs + 1) (sl + 6)) ∧ (∀ (S' : MM), (tpQ8 S S' F t z Y R kz ∧ syms R.Q.tp = none) → Kx 3 S' (cs + 1) (sl + 6))))
  | _ => False
def sp_rrtp (t : Nat) (F : Nat → Nat × Nat) (z : Nat → Nat) (Y : Nat → Nat → Nat) (R : Rb) (kz : Nat → Nat) : Sp := (fun av S => av = [.inr (.inr (some t))] ∧ (MD S F t z Y R kz), fun _ S => 1, fun _ S => 6, fun _ S rv S' => rv = none ∧ (tpQ8 S S' F t z Y R kz ∧ ∃ L, syms R.Q.tp = some L ∧ txP S' t z L), fun _ S E S' => (E = 3 ∧ (tpQ8 S S' F t z Y R kz ∧ syms R.Q.tp = none)))
def tX14_readTape : CD := [(0, .aload_n 0), (1, .getfield 152), (4, .istore_n 1), (5, .aload_n 0), (6, .iconst 0), (7, .putfield 152), (10, .aload_n 0), (11, .aload_n 0), (12, .getfield 16), (15, .iload_n 1), (16, .invokevirtual 166), (19, .ifCond .ne 11), (22, .new 170), (25, .dup), (26, .invokespecial 172), (29, .athrow), (30, .return_)]
set_option maxRecDepth 100000 in
theorem kX14_readTape : chk cX14_readTape tX14_readTape = true := by decide +kernel
theorem vX14_readTape_166 : ∀ w ∈ ([.methodLink RX14 166 yX14_readText, .instanceMethod yX14_readText, .selects yX14_readText.cls yX14_readText yX14_readText, .initialized yX14_readText.cls, .code yX14_readText cX14_readText 8 (some .boolean)] : List Cond), w ∈ lw_good := List.forall_mem_cons.mpr ⟨mgd 1962 (by decide +kernel) (by decide +kernel), List.forall_mem_cons.mpr ⟨mgd 1964 (by decide +kernel) (by decide +kernel), List.forall_mem_cons.mpr ⟨mgd 54 (by decide +kernel) (by decide +kernel), List.forall_mem_cons.mpr ⟨mgd 136 (by decide +kernel) (by decide +kernel), List.forall_mem_cons.mpr ⟨mgd 1965 (by decide +kernel) (by decide +kernel), fun _ h => absurd h List.not_mem_nil⟩⟩⟩⟩⟩
set_option maxRecDepth 100000 in
set_option maxHeartbeats 2000000 in
theorem c_rrtp (l : Launch) (hlt : l.stackTraces = false) : ∀ (t : Nat) (F : Nat → Nat × Nat) (z : Nat → Nat) (Y : Nat → Nat → Nat) (R : Rb) (kz : Nat → Nat), CtX l yX14_readTape (Cond.code yX14_readTape cX14_readTape 2 none) none 6 89 (sp_rrtp t F z Y R kz) := by
  intro t F z Y R kz
  refine CtX.of hlt (fX14, nX14, aX14, iX14, lX14, [(166, 0, 3, 1, T_rrt)], qX14, gX14, thX14) false tX14_readTape (fun _ _ _ => none) (by decide) (by decide) kX14_readTape ⟨_, _, rfl⟩ fX14_ok nX14_ok aX14_ok iX14_ok lX14_ok (fun p e R s m args below meth c Q D cy z r A C hR1 hR2 => List.forall_mem_cons.mpr ⟨cOK_use (fun _ _ _ _ _ _ _ _ h => let ⟨sp, h1, h2, h3⟩ := u_rrt l _ _ _ _ _ _ _ _ h; ⟨sp, cOK_V C h1 vX14_readTape_166 ⟨by decide, by decide, by decide +kernel⟩ ⟨by rw [hR1]; decide, by rw [hR2]; decide⟩ (k := 15) (T := TX14) (N := 52) rfl (by decide) h2, h3⟩), fun _ h => absurd h List.not_mem_nil⟩) qX14_ok gX14_ok (fun q hq => ⟨thX14_ok q hq, by decide, by decide⟩) ?_ ?_
  · rintro _ S ⟨rfl, hp⟩
    refine ⟨Nat.le_of_ble_eq_true rfl, 300, ?_⟩
    show (isO S 15 t ∧ (True ∧ (isO S 15 t ∧ (isO (sI S 1502 t (0 : Int32)) 15 t ∧ (0 = 0 ∧ ((pa (mR (sI S 1502 t (0 : Int32)) 1501 t) fun a_1 => (∃ (n_2 : Nat), mI S 1502 t = nI n_2 ∧ (∃ (F_3 : Nat → Nat × Nat) (z_4 : Nat → Nat) (Y_5 : Nat → Nat → Nat) (R_6 : Rb) (kz_7 : Nat → Nat) (B_8 : List Nat), (MD (sI S 1502 t (0 : Int32)) F_3 t z_4 Y_5 R_6 kz_7 ∧ byN (sI S 1502 t (0 : Int32)) a_1 B_8 ∧ B_8.length = n_2) ∧ 0 ≤ 1 ∧ 0 ≤ 6 ∧ (∀ (S_9 : MM), (txQ (sI S 1502 t (0 : Int32)) S_9 F_3 t z_4 Y_5 R_6 kz_7 ∧ ∀ L, syms B_8 = some L → txP S_9 t z_4 L) → ((¬ (bI (syms B_8).isSome) = 0 → (([] : List MV) = [] ∧ mret none (sp_rrtp t F z Y R kz) [.inr (.inr (some t))] S none S_9 0 0)) ∧ ((bI (syms B_8).isSome) = 0 → (mthr (sp_rrtp t F z Y R kz) [.inr (.inr (some t))] S 3 S_9 (0 + 1) (0 + 6))))))))))))))
    have r1 := hp 1 1 (by decide)
    obtain ⟨t1, t2, t3⟩ := hp 3
    have hM1 : MD (sI S 1502 t 0) F t z Y (rtE R) kz := hp.cut (j := 0) (Nat.zero_le _)
    refine ⟨(hp 0).1, trivial, (hp 0).1, (hM1 0).1, rfl, pa_i (hM1 1 1 (by decide)).1 ⟨_, t1, F, z, Y, rtE R, kz, R.Q.tp, ⟨hM1, ⟨r1.2.2.1, by show _ ≤ mN S (z 1); rw [r1.2.2.2]; exact t2, t2, t3.2.1, t3.2.2⟩, rfl⟩, by decide, by decide, fun S9 h => ?_⟩⟩
    obtain ⟨⟨q1, q2, q3, q4⟩, q5⟩ := h
    have hQ : tpQ8 S S9 F t z Y R kz := ⟨q1, (Keep.sI (P := fun c => c = t ∨ c = z 17) Keep.rf (Or.inl rfl)).tr q2, by rw [q3 1551 (by decide), mI_sI, if_neg (fun e => absurd e.1 (by decide))]⟩
    cases hs : syms R.Q.tp with
    | none =>
      exact ⟨fun w => absurd rfl w, fun _ => ⟨⟨rfl, hQ, hs⟩, Nat.le_of_ble_eq_true rfl, Nat.le_of_ble_eq_true rfl⟩⟩
    | some L =>
      exact ⟨fun _ => ⟨rfl, trivial, ⟨rfl, hQ, L, hs, q5 L hs⟩, Nat.le_of_ble_eq_true rfl, Nat.le_of_ble_eq_true rfl⟩, fun w => absurd (show (1 : Int32) = 0 from w) (by decide)⟩
  · exact fun _ _ _ _ _ h => by cases h
theorem u_rrtp (l : Launch) (hlt : l.stackTraces = false) : UsX l yX14_readTape (Cond.code yX14_readTape cX14_readTape 2 none) none 6 89 15 T_rrtp := by
  intro Rc Rs av S cs sl K Kx h
  unfold T_rrtp at h
  split at h
  · rename_i t_o
    obtain ⟨t, rfl, h_1⟩ := pa_of h
    obtain ⟨F, z, Y, R, kz, hp, hc, hs, hk, hx0⟩ := h_1
    refine ⟨(sp_rrtp t F z Y R kz), c_rrtp l hlt t F z Y R kz, fun _ _ h9 => ⟨_, _, h9.1, (h9.2 0).1⟩, ⟨rfl, hp⟩, hc, hs, fun S' h8 => by
      obtain ⟨-, h8⟩ := h8
      exact hk _ h8, fun _ _ q => by
      rcases q with ⟨rfl, q⟩
      · exact hx0 _ q⟩
  · exact h.elim
def tNs (R : Rb) : Nat := ((syms R.Q.tp).getD []).length
def inX (R : Rb) (n : Nat) (x : Int32) (i : Nat) : Prop := i ≤ visN (R.Q.G n) (R.Q.T n) ∧ x = nI i
def inN (R : Rb) (n : Nat) (G' : Gr) (T' : Tr) (m : Nat) : Rb := (rtE R).sP n G' T' (R.Q.Kn n) (if m = 0 then R.C n else R.C n ++ [(true, (agE (R.Q.G n) n).length, m)])
def I_rin1 (t : Nat) (p x : Int32) (Y : Nat → Nat → Nat) (R : Rb) (S : MM) (k : Nat) : KT := fun lo st S1 cs sl => ∃ n i, k = 1000000 ∧ n < 4 ∧ p = nI n ∧ inX R n x i ∧ lo = [(0, .inr (.inr (some t))), (1, .inl (nI n)), (2, .inl (nI i)), (3, .inr (.inr (some (Y n 0))))] ∧ st = [] ∧ S = S1 ∧ cs = 2 ∧ sl = 12
/-- a run of own events under way, perhaps of none -/
def rnN (S S1 : MM) (F F1 : Nat → Nat × Nat) (t : Nat) (z : Nat → Nat) (Y Y1 : Nat → Nat → Nat) (R : Rb) (kz : Nat → Nat) (n m j : Nat) (ops : List (Option Nat × Nat)) (G1 : Gr) (T1 : Tr) : Prop := MD S1 F1 t z Y1 (R.sG n G1 T1) kz ∧ (∀ b, b ∈ mL S → F1 b = F b) ∧ Keep (fun c => 100 ≤ (F c).1) S S1 ∧ mI S1 1551 t = mI S 1551 t ∧ Y1 n 0 = Y n 0 ∧ Run n (owN (R.Q.G n) n) ops (R.Q.G n) (R.Q.T n) G1 T1 ∧ GT G1 T1 ∧ (m ≠ 0 → OwSl G1 n (owN (R.Q.G n) n)) ∧ G1.n = (R.Q.G n).n + j ∧ G1.cn (owN (R.Q.G n) n) = (R.Q.G n).cn (owN (R.Q.G n) n) + j
def I_rin2 (t : Nat) (p x : Int32) (F : Nat → Nat × Nat) (z : Nat → Nat) (Y : Nat → Nat → Nat) (R : Rb) (kz : Nat → Nat) (S : MM) (k : Nat) : KT := fun lo st S1 cs sl => ∃ (n i : Nat) (L : List Nat) (j : Nat) (F1 : Nat → Nat × Nat) (Y1 : Nat → Nat → Nat) (G1 : Gr) (T1 : Tr), j + k = L.length ∧ n < 4 ∧ p = nI n ∧ inX R n x i ∧ syms R.Q.tp = some (L.map nI) ∧ (∀ c ∈ L, c ≤ 1114111) ∧ roP (R.Q.G n) n L.length ∧ rnN S S1 F F1 t z Y Y1 (rtE R) kz n L.length j (insO i (L.take j)) G1 T1 ∧ txP S1 t z (L.map nI) ∧ visN G1 T1 = visN (R.Q.G n) (R.Q.T n) + j ∧ lo = [(0, .inr (.inr (some t))), (1, .inl (nI n)), (2, .inl (nI i)), (3, .inr (.inr (some (Y n 0)))), (4, .inl (nI (agE (R.Q.G n) n).length)), (5, .inl (nI j))] ∧ st = [] ∧ cs = 4 + dC1 R n j ∧ sl = 24 + dC2 R n j
theorem tpQ8.md {S S' : MM} {F : Nat → Nat × Nat} {t : Nat} {z : Nat → Nat} {Y : Nat → Nat → Nat} {R : Rb} {kz : Nat → Nat} (h : tpQ8 S S' F t z Y R kz) (hM : MD S F t z Y R kz) : mdQ S S' F t (rtE R) kz ∧ Keep (fun c => 100 ≤ (F c).1) S S' := by
  have k : Keep (fun c => 100 ≤ (F c).1) S S' := h.2.1.mono (fun b _ q => by
    rcases q with e | e
    · rw [e, (hM 0).2]; exact Nat.le_refl _
    · rw [e, (hM 1 17 (by decide)).2.1]; exact Nat.le_refl _)
  exact ⟨⟨F, z, Y, h.1, fun _ _ => rfl, k, h.2.2⟩, k⟩
def rinQ (S S' : MM) (F : Nat → Nat × Nat) (t : Nat) (R : Rb) (kz : Nat → Nat) (p x v : Int32) : Prop := ∃ (n i : Nat) (L : List Nat) (G' : Gr) (T' : Tr), n < 4 ∧ p = nI n ∧ inX R n x i ∧ syms R.Q.tp = some (L.map nI) ∧ roP (R.Q.G n) n L.length ∧ Run n (owN (R.Q.G n) n) (insO i L) (R.Q.G n) (R.Q.T n) G' T' ∧ v = nI L.length ∧ mdQ S S' F t (inN R n G' T' L.length) kz
def T_rin0 : TR := fun Rc Rs av S cs sl K Kx => match av with
  | [.inr (.inr t_o), .inl p, .inl x] => pa t_o fun t => (∃ (F : Nat → Nat × Nat) (z : Nat → Nat) (Y : Nat → Nat → Nat) (R : Rb) (kz : Nat → Nat), (MD S F t z Y R kz ∧ AbC R) ∧ cs + (4 + dC1 R p.toNatClampNeg (tNs R)) ≤ Rc ∧ sl + (24 + dC2 R p.toNatClampNeg (tNs R)) ≤ Rs ∧ ((∀ (v : Int32) (S' : MM), (rinQ S S' F t R kz p x v) → K (some (.inl v)) S' (cs + (4 + dC1 R p.toNatClampNeg (tNs R))) (sl + (24 + dC2 R p.toNatClampNeg (tNs R)))) ∧ ((np 4 p ∨ ∃ n, n < 4 ∧ p = nI n ∧ np (visN (R.Q.G n) (R.Q.T n) + 1) x) → Kx 1 S (cs + (4 + dC1 R p.toNatClampNeg (tNs R))) (sl + (24 + dC2 R p.toNatClampNeg (tNs R)))) ∧ (∀ (S' : MM), ((∃ n i, n < 4 ∧ p = nI n ∧ inX R n x i) ∧ syms R.Q.tp = none ∧ mdQ S S' F t (rtE R) kz) → Kx 3 S' (cs + (4 + dC1 R p.toNatClampNeg (tNs R))) (sl + (24 + dC2 R p.toNatClampNeg (tNs R)))) ∧ (∀ (S' : MM), ((∃ (n i : Nat) (L : List Nat), n < 4 ∧ p = nI n ∧ inX R n x i ∧ syms R.Q.tp = some (L.map nI) ∧ ¬ roP (R.Q.G n) n L.length) ∧ mdQ S S' F t (rtE R) kz) → Kx 0 S' (cs + (4 + dC1 R p.toNatClampNeg (tNs R))) (sl + (24 + dC2 R p.toNatClampNeg (tNs R))))))
  | _ => False
def sp_rin0 (t : Nat) (p : Int32) (x : Int32) (F : Nat → Nat × Nat) (z : Nat → Nat) (Y : Nat → Nat → Nat) (R : Rb) (kz : Nat → Nat) : Sp := (fun av S => av = [.inr (.inr (some t)), .inl p, .inl x] ∧ (MD S F t z Y R kz ∧ AbC R), fun _ S => 4 + dC1 R p.toNatClampNeg (tNs R), fun _ S => 24 + dC2 R p.toNatClampNeg (tNs R), fun _ S rv S' => ∃ v, rv = (some (.inl v)) ∧ (rinQ S S' F t R kz p x v), fun _ S E S' => (E = 1 ∧ (np 4 p ∨ ∃ n, n < 4 ∧ p = nI n ∧ np (visN (R.Q.G n) (R.Q.T n) + 1) x) ∧ S' = S) ∨ (E = 3 ∧ ((∃ n i, n < 4 ∧ p = nI n ∧ inX R n x i) ∧ syms R.Q.tp = none ∧ mdQ S S' F t (rtE R) kz)) ∨ (E = 0 ∧ ((∃ (n i : Nat) (L : List Nat), n < 4 ∧ p = nI n ∧ inX R n x i ∧ syms R.Q.tp = some (L.map nI) ∧ ¬ roP (R.Q.G n) n L.length) ∧ mdQ S S' F t (rtE R) kz)))
def tX14_insert0 : CD := [(0, .aload_n 0), (1, .iload_n 1), (2, .invokevirtual 203), (5, .astore_n 3), (6, .iload_n 2), (7, .iconst 0), (8, .aload_n 3), (9, .invokevirtual 207), (12, .invokestatic 144), (15, .invokestatic 148), (18, .aload_n 0), (19, .invokevirtual 211), (22, .aload_n 0), (23, .aload_n 3), (24, .iload_n 1), (25, .aload_n 0), (26, .getfield 159), (29, .invokevirtual 214), (32, .aload_n 3), (33, .iload_n 1), (34, .invokevirtual 218), (37, .istore 4), (39, .iconst 0), (40, .istore 5), (42, .iload 5), (44, .aload_n 0), (45, .getfield 159), (48, .if_icmp .ge 29), (51, .aload_n 3), (52, .aload_n 0), (53, .iload_n 1), (54, .invokevirtual 221), (57, .iload_n 2), (58, .iload 5), (60, .iadd), (61, .aload_n 0), (62, .getfield 54), (65, .iload 5), (67, .iaload), (68, .invokevirtual 224), (71, .iinc 5 1), (74, .goto (-32)), (77, .aload_n 0), (78, .aload_n 3), (79, .iconst 1), (80, .iload 4), (82, .aload_n 0), (83, .getfield 159), (86, .invokevirtual 228), (89, .aload_n 0), (90, .getfield 159), (93, .ireturn)]
set_option maxRecDepth 100000 in
theorem kX14_insert0 : chk cX14_insert0 tX14_insert0 = true := by decide +kernel
theorem vX14_insert0_203 : ∀ w ∈ ([.methodLink RX14 203 yX14_graph, .instanceMethod yX14_graph, .selects yX14_graph.cls yX14_graph yX14_graph, .initialized yX14_graph.cls, .code yX14_graph cX14_graph 2 (some (.object "WeaveTextModel$Graph"))] : List Cond), w ∈ lw_good := List.forall_mem_cons.mpr ⟨mgd 1946 (by decide +kernel) (by decide +kernel), List.forall_mem_cons.mpr ⟨mgd 1948 (by decide +kernel) (by decide +kernel), List.forall_mem_cons.mpr ⟨mgd 52 (by decide +kernel) (by decide +kernel), List.forall_mem_cons.mpr ⟨mgd 136 (by decide +kernel) (by decide +kernel), List.forall_mem_cons.mpr ⟨mgd 1949 (by decide +kernel) (by decide +kernel), fun _ h => absurd h List.not_mem_nil⟩⟩⟩⟩⟩
theorem vX14_insert0_207 : ∀ w ∈ ([.methodLink RX14 207 yX12_length, .instanceMethod yX12_length, .selects yX12_length.cls yX12_length yX12_length, .initialized yX12_length.cls, .code yX12_length cX12_length 3 (some .int)] : List Cond), w ∈ lw_good := List.forall_mem_cons.mpr ⟨mgd 1950 (by decide +kernel) (by decide +kernel), List.forall_mem_cons.mpr ⟨mgd 1951 (by decide +kernel) (by decide +kernel), List.forall_mem_cons.mpr ⟨mgd 1952 (by decide +kernel) (by decide +kernel), List.forall_mem_cons.mpr ⟨mgd 138 (by decide +kernel) (by decide +kernel), List.forall_mem_cons.mpr ⟨mgd 1953 (by decide +kernel) (by decide +kernel), fun _ h => absurd h List.not_mem_nil⟩⟩⟩⟩⟩
theorem vX14_insert0_144 : ∀ w ∈ ([.methodLink RX14 144 yX14_in, .static yX14_in, .initialized yX14_in.cls, .code yX14_in cX14_in 3 (some .boolean)] : List Cond), w ∈ lw_good := List.forall_mem_cons.mpr ⟨mgd 1930 (by decide +kernel) (by decide +kernel), List.forall_mem_cons.mpr ⟨mgd 1931 (by decide +kernel) (by decide +kernel), List.forall_mem_cons.mpr ⟨mgd 136 (by decide +kernel) (by decide +kernel), List.forall_mem_cons.mpr ⟨mgd 1932 (by decide +kernel) (by decide +kernel), fun _ h => absurd h List.not_mem_nil⟩⟩⟩⟩
theorem vX14_insert0_148 : ∀ w ∈ ([.methodLink RX14 148 yX14_check, .static yX14_check, .initialized yX14_check.cls, .code yX14_check cX14_check 1 none] : List Cond), w ∈ lw_good := List.forall_mem_cons.mpr ⟨mgd 1933 (by decide +kernel) (by decide +kernel), List.forall_mem_cons.mpr ⟨mgd 1934 (by decide +kernel) (by decide +kernel), List.forall_mem_cons.mpr ⟨mgd 136 (by decide +kernel) (by decide +kernel), List.forall_mem_cons.mpr ⟨mgd 1935 (by decide +kernel) (by decide +kernel), fun _ h => absurd h List.not_mem_nil⟩⟩⟩⟩
theorem vX14_insert0_211 : ∀ w ∈ ([.methodLink RX14 211 yX14_readTape, .instanceMethod yX14_readTape, .selects yX14_readTape.cls yX14_readTape yX14_readTape, .initialized yX14_readTape.cls, .code yX14_readTape cX14_readTape 2 none] : List Cond), w ∈ lw_good := List.forall_mem_cons.mpr ⟨mgd 1958 (by decide +kernel) (by decide +kernel), List.forall_mem_cons.mpr ⟨mgd 1960 (by decide +kernel) (by decide +kernel), List.forall_mem_cons.mpr ⟨mgd 53 (by decide +kernel) (by decide +kernel), List.forall_mem_cons.mpr ⟨mgd 136 (by decide +kernel) (by decide +kernel), List.forall_mem_cons.mpr ⟨mgd 1961 (by decide +kernel) (by decide +kernel), fun _ h => absurd h List.not_mem_nil⟩⟩⟩⟩⟩
theorem vX14_insert0_214 : ∀ w ∈ ([.methodLink RX14 214 yX14_needRoom, .instanceMethod yX14_needRoom, .selects yX14_needRoom.cls yX14_needRoom yX14_needRoom, .initialized yX14_needRoom.cls, .code yX14_needRoom cX14_needRoom 4 none] : List Cond), w ∈ lw_good := List.forall_mem_cons.mpr ⟨mgd 1971 (by decide +kernel) (by decide +kernel), List.forall_mem_cons.mpr ⟨mgd 1973 (by decide +kernel) (by decide +kernel), List.forall_mem_cons.mpr ⟨mgd 55 (by decide +kernel) (by decide +kernel), List.forall_mem_cons.mpr ⟨mgd 136 (by decide +kernel) (by decide +kernel), List.forall_mem_cons.mpr ⟨mgd 1974 (by decide +kernel) (by decide +kernel), fun _ h => absurd h List.not_mem_nil⟩⟩⟩⟩⟩
theorem vX14_insert0_218 : ∀ w ∈ ([.methodLink RX14 218 yX12_countOf, .instanceMethod yX12_countOf, .selects yX12_countOf.cls yX12_countOf yX12_countOf, .initialized yX12_countOf.cls, .code yX12_countOf cX12_countOf 3 (some .int)] : List Cond), w ∈ lw_good := List.forall_mem_cons.mpr ⟨mgd 1979 (by decide +kernel) (by decide +kernel), List.forall_mem_cons.mpr ⟨mgd 1980 (by decide +kernel) (by decide +kernel), List.forall_mem_cons.mpr ⟨mgd 1981 (by decide +kernel) (by decide +kernel), List.forall_mem_cons.mpr ⟨mgd 138 (by decide +kernel) (by decide +kernel), List.forall_mem_cons.mpr ⟨mgd 1982 (by decide +kernel) (by decide +kernel), fun _ h => absurd h List.not_mem_nil⟩⟩⟩⟩⟩
theorem vX14_insert0_221 : ∀ w ∈ ([.methodLink RX14 221 yX14_own, .instanceMethod yX14_own, .selects yX14_own.cls yX14_own yX14_own, .initialized yX14_own.cls, .code yX14_own cX14_own 2 (some .int)] : List Cond), w ∈ lw_good := List.forall_mem_cons.mpr ⟨mgd 1984 (by decide +kernel) (by decide +kernel), List.forall_mem_cons.mpr ⟨mgd 1986 (by decide +kernel) (by decide +kernel), List.forall_mem_cons.mpr ⟨mgd 56 (by decide +kernel) (by decide +kernel), List.forall_mem_cons.mpr ⟨mgd 136 (by decide +kernel) (by decide +kernel), List.forall_mem_cons.mpr ⟨mgd 1987 (by decide +kernel) (by decide +kernel), fun _ h => absurd h List.not_mem_nil⟩⟩⟩⟩⟩
theorem vX14_insert0_224 : ∀ w ∈ ([.methodLink RX14 224 yX12_insert, .instanceMethod yX12_insert, .selects yX12_insert.cls yX12_insert yX12_insert, .initialized yX12_insert.cls, .code yX12_insert cX12_insert 10 none] : List Cond), w ∈ lw_good := List.forall_mem_cons.mpr ⟨mgd 1997 (by decide +kernel) (by decide +kernel), List.forall_mem_cons.mpr ⟨mgd 1998 (by decide +kernel) (by decide +kernel), List.forall_mem_cons.mpr ⟨mgd 1999 (by decide +kernel) (by decide +kernel), List.forall_mem_cons.mpr ⟨mgd 138 (by decide +kernel) (by decide +kernel), List.forall_mem_cons.mpr ⟨mgd 2000 (by decide +kernel) (by decide +kernel), fun _ h => absurd h List.not_mem_nil⟩⟩⟩⟩⟩
theorem vX14_insert0_228 : ∀ w ∈ ([.methodLink RX14 228 yX14_note, .instanceMethod yX14_note, .selects yX14_note.cls yX14_note yX14_note, .initialized yX14_note.cls, .code yX14_note cX14_note 5 none] : List Cond), w ∈ lw_good := List.forall_mem_cons.mpr ⟨mgd 2041 (by decide +kernel) (by decide +kernel), List.forall_mem_cons.mpr ⟨mgd 2043 (by decide +kernel) (by decide +kernel), List.forall_mem_cons.mpr ⟨mgd 63 (by decide +kernel) (by decide +kernel), List.forall_mem_cons.mpr ⟨mgd 136 (by decide +kernel) (by decide +kernel), List.forall_mem_cons.mpr ⟨mgd 2044 (by decide +kernel) (by decide +kernel), fun _ h => absurd h List.not_mem_nil⟩⟩⟩⟩⟩
set_option maxRecDepth 100000 in
set_option maxHeartbeats 2000000 in
theorem c_rin0 (l : Launch) (hlt : l.stackTraces = false) : ∀ (t : Nat) (p : Int32) (x : Int32) (F : Nat → Nat × Nat) (z : Nat → Nat) (Y : Nat → Nat → Nat) (R : Rb) (kz : Nat → Nat), CtX l yX14_insert0 (Cond.code yX14_insert0 cX14_insert0 6 (some .int)) (some .int) 8 130 (sp_rin0 t p x F z Y R kz) := by
  intro t p x F z Y R kz
  refine CtX.of hlt (fX14, nX14, aX14, iX14, lX14, [(203, 0, 2, 3, T_rgr), (207, 0, 1, 1, T_rln), (144, 2, 3, 1, T_rin), (148, 2, 1, 0, T_rck), (211, 0, 1, 0, T_rrtp), (214, 0, 4, 0, T_rnr), (218, 0, 2, 1, T_rco), (221, 0, 2, 1, T_row8), (224, 0, 4, 0, T_ris), (228, 0, 5, 0, T_rnt2)], qX14, gX14, []) false tX14_insert0 (fun _ S => look [(18, ([0,1,2,3], I_rin1 t p x Y R S)), (42, ([0,1,2,3,4,5], I_rin2 t p x F z Y R kz S))]) (by decide) (by decide) kX14_insert0 ⟨_, _, rfl⟩ fX14_ok nX14_ok aX14_ok iX14_ok lX14_ok (fun p e R s m args below meth c Q D cy z r A C hR1 hR2 => List.forall_mem_cons.mpr ⟨cOK_use (fun _ _ _ _ _ _ _ _ h => let ⟨sp, h1, h2, h3⟩ := u_rgr l hlt _ _ _ _ _ _ _ _ h; ⟨sp, cOKx_V C h1 vX14_insert0_203 ⟨by decide, by decide, by decide +kernel⟩ ⟨by rw [hR1]; decide, by rw [hR2]; decide⟩ (k := 15) (T := TX14) (N := 52) rfl (by decide) h2, h3⟩), List.forall_mem_cons.mpr ⟨cOK_use (fun _ _ _ _ _ _ _ _ h => let ⟨sp, h1, h2, h3⟩ := u_rln l _ _ _ _ _ _ _ _ h; ⟨sp, cOK_V C h1 vX14_insert0_207 ⟨by decide, by decide, by decide +kernel⟩ ⟨by rw [hR1]; decide, by rw [hR2]; decide⟩ (k := 13) (T := TX12) (N := 27) rfl (by decide) h2, h3⟩), List.forall_mem_cons.mpr ⟨cOK_use (fun _ _ _ _ _ _ _ _ h => let ⟨sp, h1, _, h3⟩ := u_rin l _ _ _ _ _ _ _ _ h; ⟨sp, cOK_S C h1 vX14_insert0_144 ⟨by decide, by decide, by decide +kernel⟩ ⟨by rw [hR1]; decide, by rw [hR2]; decide⟩, h3⟩), List.forall_mem_cons.mpr ⟨cOK_use (fun _ _ _ _ _ _ _ _ h => let ⟨sp, h1, _, h3⟩ := u_rck l hlt _ _ _ _ _ _ _ _ h; ⟨sp, cOKx_S C h1 vX14_insert0_148 ⟨by decide, by decide, by decide +kernel⟩ ⟨by rw [hR1]; decide, by rw [hR2]; decide⟩, h3⟩), List.forall_mem_cons.mpr ⟨cOK_use (fun _ _ _ _ _ _ _ _ h => let ⟨sp, h1, h2, h3⟩ := u_rrtp l hlt _ _ _ _ _ _ _ _ h; ⟨sp, cOKx_V C h1 vX14_insert0_211 ⟨by decide, by decide, by decide +kernel⟩ ⟨by rw [hR1]; decide, by rw [hR2]; decide⟩ (k := 15) (T := TX14) (N := 52) rfl (by decide) h2, h3⟩), List.forall_mem_cons.mpr ⟨cOK_use (fun _ _ _ _ _ _ _ _ h => let ⟨sp, h1, h2, h3⟩ := u_rnr l hlt _ _ _ _ _ _ _ _ h; ⟨sp, cOKx_V C h1 vX14_insert0_214 ⟨by decide, by decide, by decide +kernel⟩ ⟨by rw [hR1]; decide, by rw [hR2]; decide⟩ (k := 15) (T := TX14) (N := 52) rfl (by decide) h2, h3⟩), List.forall_mem_cons.mpr ⟨cOK_use (fun _ _ _ _ _ _ _ _ h => let ⟨sp, h1, h2, h3⟩ := u_rco l _ _ _ _ _ _ _ _ h; ⟨sp, cOK_V C h1 vX14_insert0_218 ⟨by decide, by decide, by decide +kernel⟩ ⟨by rw [hR1]; decide, by rw [hR2]; decide⟩ (k := 13) (T := TX12) (N := 27) rfl (by decide) h2, h3⟩), List.forall_mem_cons.mpr ⟨cOK_use (fun _ _ _ _ _ _ _ _ h => let ⟨sp, h1, h2, h3⟩ := u_row8 l _ _ _ _ _ _ _ _ h; ⟨sp, cOK_V C h1 vX14_insert0_221 ⟨by decide, by decide, by decide +kernel⟩ ⟨by rw [hR1]; decide, by rw [hR2]; decide⟩ (k := 15) (T := TX14) (N := 52) rfl (by decide) h2, h3⟩), List.forall_mem_cons.mpr ⟨cOK_use (fun _ _ _ _ _ _ _ _ h => let ⟨sp, h1, h2, h3⟩ := u_ris l _ _ _ _ _ _ _ _ h; ⟨sp, cOK_V C h1 vX14_insert0_224 ⟨by decide, by decide, by decide +kernel⟩ ⟨by rw [hR1]; decide, by rw [hR2]; decide⟩ (k := 13) (T := TX12) (N := 27) rfl (by decide) h2, h3⟩), List.forall_mem_cons.mpr ⟨cOK_use (fun _ _ _ _ _ _ _ _ h => let ⟨sp, h1, h2, h3⟩ := u_rnt2 l _ _ _ _ _ _ _ _ h; ⟨sp, cOK_V C h1 vX14_insert0_228 ⟨by decide, by decide, by decide +kernel⟩ ⟨by rw [hR1]; decide, by rw [hR2]; decide⟩ (k := 15) (T := TX14) (N := 52) rfl (by decide) h2, h3⟩), fun _ h => absurd h List.not_mem_nil⟩⟩⟩⟩⟩⟩⟩⟩⟩⟩) qX14_ok gX14_ok (fun _ h => absurd h List.not_mem_nil) ?_ ?_
  · rintro _ S ⟨rfl, hp⟩
    refine ⟨Nat.le_of_ble_eq_true rfl, 300, ?_⟩
    show (0 = 0 ∧ (∃ (F_1 : Nat → Nat × Nat) (z_2 : Nat → Nat) (Y_3 : Nat → Nat → Nat) (R_4 : Rb) (kz_5 : Nat → Nat), (MD S F_1 t z_2 Y_3 R_4 kz_5) ∧ 0 + 1 ≤ 4 + dC1 R p.toNatClampNeg (tNs R) ∧ 0 + 6 ≤ 24 + dC2 R p.toNatClampNeg (tNs R) ∧ ((∀ (x_7 : Option Nat) (S_6 : MM), (S_6 = S ∧ ∃ n, n < 4 ∧ p = nI n ∧ x_7 = some (Y_3 n 0)) → (0 = 0 ∧ ((pa x_7 fun a_8 => (∃ (F_9 : Nat → Nat × Nat) (i_10 : Nat) (y_11 : Nat → Nat) (G_12 : Gr) (T_13 : Tr), (a_8 = y_11 0 ∧ RG S_6 F_9 i_10 y_11 G_12 T_13) ∧ 0 + 1 ≤ 4 + dC1 R p.toNatClampNeg (tNs R) ∧ 0 + 6 ≤ 24 + dC2 R p.toNatClampNeg (tNs R) ∧ ((2 = 2 ∧ (True ∧ 0 + 1 ≤ 4 + dC1 R p.toNatClampNeg (tNs R) ∧ 0 + 6 ≤ 24 + dC2 R p.toNatClampNeg (tNs R) ∧ ((2 = 2 ∧ (((tf ((0 : Int32) ≤ x ∧ x ≤ (nI (T_13.od.filter (vis G_12)).length))) = 0 ∨ (tf ((0 : Int32) ≤ x ∧ x ≤ (nI (T_13.od.filter (vis G_12)).length))) = 1) ∧ 0 + 1 + 1 ≤ 4 + dC1 R p.toNatClampNeg (tNs R) ∧ 0 + 6 + 6 ≤ 24 + dC2 R p.toNatClampNeg (tNs R) ∧ ((∀ (S_16 : MM), (S_16 = S_6 ∧ (tf ((0 : Int32) ≤ x ∧ x ≤ (nI (T_13.od.filter (vis G_12)).length))) = 1) → (∃ k1, I_rin1 t p x Y R S k1 [(0, .inr (.inr (some t))), (1, .inl p), (2, .inl x), (3, .inr (.inr x_7))] [] S_16 (0 + 1 + 1) (0 + 6 + 6))) ∧ (((tf ((0 : Int32) ≤ x ∧ x ≤ (nI (T_13.od.filter (vis G_12)).length))) = 0) → mthr (sp_rin0 t p x F z Y R kz) [.inr (.inr (some t)), .inl p, .inl x] S 1 S_6 (0 + 1 + 1) (0 + 6 + 6)))))))))))))) ∧ ((np 4 p) → mthr (sp_rin0 t p x F z Y R kz) [.inr (.inr (some t)), .inl p, .inl x] S 1 S (0 + 1) (0 + 6)))))
    obtain ⟨hM, hA⟩ := hp
    have fail : ∀ {a b : Nat}, (np 4 p ∨ ∃ n, n < 4 ∧ p = nI n ∧ np (visN (R.Q.G n) (R.Q.T n) + 1) x) → a ≤ 4 → b ≤ 24 → mthr (sp_rin0 t p x F z Y R kz) [.inr (.inr (some t)), .inl p, .inl x] S 1 S a b := fun h ha hb => ⟨Or.inl ⟨rfl, h, rfl⟩, Nat.le_trans ha (Nat.le_add_right _ _), Nat.le_trans hb (Nat.le_add_right _ _)⟩
    refine ⟨rfl, F, z, Y, R, kz, hM, by omega, by omega, fun v S6 h => ?_, fun h => fail (Or.inl h) (by decide) (by decide)⟩
    obtain ⟨rfl, n, hn, hpn, rfl⟩ := h
    have g := (hM 2 n hn).2.1
    have hnm := g.nm
    have hol := g.odl
    have hfl : ((R.Q.T n).od.filter (vis (R.Q.G n))).length ≤ (R.Q.T n).od.length := List.length_filter_le _ _
    refine ⟨rfl, pa_i rfl ⟨F, 101 + n, Y n, R.Q.G n, R.Q.T n, ⟨rfl, g⟩, by omega, by omega, rfl, trivial, by omega, by omega, rfl, tf_b _, by omega, by omega, fun S16 h => ?_, fun h => fail (Or.inr ⟨n, hn, hpn, in_0k (k := ((R.Q.T n).od.filter (vis (R.Q.G n))).length) (by omega) h⟩) (by decide) (by decide)⟩⟩
    obtain ⟨rfl, h⟩ := h
    obtain ⟨i, hi, rfl⟩ := in_1k (k := ((R.Q.T n).od.filter (vis (R.Q.G n))).length) (by omega) h
    exact ⟨1000000, n, i, rfl, hn, hpn, ⟨Nat.le_of_lt_succ hi, rfl⟩, by rw [hpn], rfl, rfl, rfl, rfl⟩
  · intro av S hpre pc I hI k lo st S1 cs sl h
    obtain ⟨rfl, hp⟩ := hpre
    have hm := look_in hI
    simp only [List.mem_cons, List.not_mem_nil, or_false] at hm
    rcases hm with hm | hm
    · cases hm
      obtain ⟨n, i, rfl, hn, hpn, hX, rfl, rfl, rfl, rfl, rfl⟩ := h
      refine ⟨300, ?_⟩
      show (0 = 0 ∧ (∃ (F_1 : Nat → Nat × Nat) (z_2 : Nat → Nat) (Y_3 : Nat → Nat → Nat) (R_4 : Rb) (kz_5 : Nat → Nat), (MD S F_1 t z_2 Y_3 R_4 kz_5) ∧ 2 + 1 ≤ 4 + dC1 R p.toNatClampNeg (tNs R) ∧ 12 + 6 ≤ 24 + dC2 R p.toNatClampNeg (tNs R) ∧ ((∀ (S_6 : MM), (tpQ8 S S_6 F_1 t z_2 Y_3 R_4 kz_5 ∧ ∃ L, syms R_4.Q.tp = some L ∧ txP S_6 t z_2 L) → (isO S_6 15 t ∧ (0 = 0 ∧ (∃ (a_7 : Nat), nI n = nI a_7 ∧ (∃ (n_8 : Nat), mI S_6 1518 t = nI n_8 ∧ (∃ (F_9 : Nat → Nat × Nat) (i_10 : Nat) (y_11 : Nat → Nat) (G_12 : Gr) (T_13 : Tr), (isO S_6 15 t ∧ (Y n 0) = y_11 0 ∧ RG S_6 F_9 i_10 y_11 G_12 T_13 ∧ a_7 < 256 ∧ n_8 ≤ 100000) ∧ 2 + 1 + 1 ≤ 4 + dC1 R p.toNatClampNeg (tNs R) ∧ 12 + 6 + 6 ≤ 24 + dC2 R p.toNatClampNeg (tNs R) ∧ ((∀ (S_14 : MM), (S_14 = S_6 ∧ (n_8 = 0 ∨ G_12.n + n_8 ≤ 8192 ∧ (hasAg G_12 a_7 ∨ G_12.m < 16))) → (0 = 0 ∧ (∃ (a_15 : Nat), nI n = nI a_15 ∧ (∃ (F_16 : Nat → Nat × Nat) (i_17 : Nat) (y_18 : Nat → Nat) (G_19 : Gr) (T_20 : Tr), ((Y n 0) = y_18 0 ∧ RG S_14 F_16 i_17 y_18 G_19 T_20 ∧ a_15 < 256) ∧ 2 + 1 + 1 ≤ 4 + dC1 R p.toNatClampNeg (tNs R) ∧ 12 + 6 + 6 ≤ 24 + dC2 R p.toNatClampNeg (tNs R) ∧ ((∃ k1, k1 < 1000000 ∧ I_rin2 t p x F z Y R kz S k1 [(0, .inr (.inr (some t))), (1, .inl (nI n)), (2, .inl (nI i)), (3, .inr (.inr (some (Y n 0)))), (4, .inl (nI (agE G_19 a_15).length)), (5, .inl (0 : Int32))] [] S_14 (2 + 1 + 1) (12 + 6 + 6))))))) ∧ ((n_8 ≠ 0 ∧ (8192 < G_12.n + n_8 ∨ ¬ hasAg G_12 a_7 ∧ G_12.m = 16)) → mthr (sp_rin0 t p x F z Y R kz) [.inr (.inr (some t)), .inl p, .inl x] S 0 S_6 (2 + 1 + 1) (12 + 6 + 6))))))))) ∧ (∀ (S_23 : MM), (tpQ8 S S_23 F_1 t z_2 Y_3 R_4 kz_5 ∧ syms R_4.Q.tp = none) → mthr (sp_rin0 t p x F z Y R kz) [.inr (.inr (some t)), .inl p, .inl x] S 3 S_23 (2 + 1) (12 + 6)))))
      obtain ⟨hM, hA⟩ := hp
      refine ⟨rfl, F, z, Y, R, kz, hM, by omega, by omega, fun S6 h => ?_, fun S23 h => ⟨Or.inr (Or.inl ⟨rfl, ⟨n, i, hn, hpn, hX⟩, h.2, (h.1.md hM).1⟩), Nat.le_trans (by decide) (Nat.le_add_right _ _), Nat.le_trans (by decide) (Nat.le_add_right _ _)⟩⟩
      obtain ⟨hQ, L0, hs, hT⟩ := h
      obtain ⟨L, rfl, hLc, hLl⟩ := syms_nat (hM 3).2.2.2.1 (hM 3).2.1 hs
      have hQ1 := hQ.1
      have g6 : RG S6 F (101 + n) (Y n) (R.Q.G n) (R.Q.T n) := (hQ1 2 n hn).2.1
      have e18 : mI S6 1518 t = nI L.length := by rw [hT.1, List.length_map]
      refine ⟨(hQ1 0).1, rfl, n, rfl, L.length, e18, F, 101 + n, Y n, R.Q.G n, R.Q.T n, ⟨(hQ1 0).1, rfl, g6, by omega, by omega⟩, by omega, by omega, fun S14 h => ?_, fun h => ⟨Or.inr (Or.inr ⟨rfl, ⟨n, i, L, hn, hpn, hX, hs, fun r => ?_⟩, (hQ.md hM).1⟩), Nat.le_trans (by decide) (Nat.le_add_right _ _), Nat.le_trans (by decide) (Nat.le_add_right _ _)⟩⟩
      · obtain ⟨rfl, hro⟩ := h
        refine ⟨rfl, n, rfl, F, 101 + n, Y n, R.Q.G n, R.Q.T n, ⟨rfl, g6, by omega⟩, by omega, by omega, L.length, by omega, n, i, L, 0, F, Y, R.Q.G n, R.Q.T n, Nat.zero_add _, hn, hpn, hX, hs, hLc, hro, ⟨?_, fun _ _ => rfl, (hQ.md hM).2, hQ.2.2, rfl, ⟨rfl, rfl⟩, (hA n hn).1, fun hne => owN_ok (hro.resolve_left hne).2, rfl, rfl⟩, hT, rfl, rfl, rfl, rfl, rfl⟩
        have := sG_id (rtE R) n
        show MD _ F t z Y ((rtE R).sG n ((rtE R).Q.G n) ((rtE R).Q.T n)) kz
        rw [this]; exact hQ1
      · rcases r with r | r
        · omega
        · rcases h.2 with q | q
          · omega
          · rcases r.2 with w | w
            · exact q.1 w
            · omega
    · cases hm
      obtain ⟨n, i, L, j, F1, Y1, G1, T1, hj, hn, hpn, hX, hsy, hLc, hro, hM, hTx, hv, rfl, rfl, rfl, rfl⟩ := h
      refine ⟨300, ?_⟩
      show (isO S1 15 t ∧ (((mI S1 1518 t) ≤ (nI j) → (isO S1 15 t ∧ (0 = 0 ∧ (∃ (f_1 : Nat), nI (agE (R.Q.G n) n).length = nI f_1 ∧ (∃ (n_2 : Nat), mI S1 1518 t = nI n_2 ∧ (∃ (F_3 : Nat → Nat × Nat) (z_4 : Nat → Nat) (Y_5 : Nat → Nat → Nat) (R_6 : Rb) (kz_7 : Nat → Nat) (p_8 : Nat) (bz_9 : Bool), (MD S1 F_3 t z_4 Y_5 R_6 kz_7 ∧ p_8 < 4 ∧ (Y n 0) = Y_5 p_8 0 ∧ (1 : Int32) = bI bz_9 ∧ (n_2 ≠ 0 → (R_6.C p_8).length < 8192) ∧ n_2 ≤ 8192) ∧ (4 + dC1 R n j) ≤ 4 + dC1 R p.toNatClampNeg (tNs R) ∧ (24 + dC2 R n j) ≤ 24 + dC2 R p.toNatClampNeg (tNs R) ∧ (∀ (S_10 : MM), (ntQ S1 S_10 F_3 t z_4 Y_5 R_6 kz_7 p_8 bz_9 f_1 n_2 ∧ Keep (fun c => (F_3 c).1 = 101 + p_8) S1 S_10) → (isO S_10 15 t ∧ (([] : List MV) = [] ∧ mret (some .int) (sp_rin0 t p x F z Y R kz) [.inr (.inr (some t)), .inl p, .inl x] S (some (.inl (mI S_10 1518 t))) S_10 (4 + dC1 R n j) (24 + dC2 R n j)))))))))) ∧ (¬ (mI S1 1518 t) ≤ (nI j) → (0 = 0 ∧ (∃ (p_11 : Nat), nI n = nI p_11 ∧ (∃ (F_12 : Nat → Nat × Nat) (z_13 : Nat → Nat) (Y_14 : Nat → Nat → Nat) (R_15 : Rb) (kz_16 : Nat → Nat) (s_17 : Nat) (pr_18 : List Nat), (MD S1 F_12 t z_13 Y_14 R_15 kz_16 ∧ p_11 < 4 ∧ raP (R_15.Q.G p_11) (R_15.Q.T p_11) p_11 s_17 (R_15.Q.G p_11).cn pr_18) ∧ (4 + dC1 R n j) + (ad1 (R_15.Q.G p_11) s_17) ≤ 4 + dC1 R p.toNatClampNeg (tNs R) ∧ (24 + dC2 R n j) + (ad2 (R_15.Q.G p_11) s_17) ≤ 24 + dC2 R p.toNatClampNeg (tNs R) ∧ (∀ (x_20 : Int32) (S_19 : MM), (x_20 = nI (R_15.Q.G p_11).n) ∧ (ownR S1 S_19 F_12 t z_13 Y_14 (R_15.sG p_11 (pGr (eGr (R_15.Q.G p_11) s_17 p_11) s_17 (R_15.Q.G p_11).cn pr_18) (R_15.Q.T p_11)) kz_16) → (isO S_19 15 t ∧ (pa (mR S_19 1517 t) fun a_21 => ∃ v_22 : Int32, (isO S_19 17 a_21 ∧ inR S_19 a_21 (nI j) ∧ v_22 = eI S_19 a_21 (nI j).toNatClampNeg ∨ a_21 = (mQ S_19).1 ∧ vp_in (nI j) 16 ∧ v_22 = mRem (nI j).toNatClampNeg) ∧ (0 = 0 ∧ (∃ (e_23 : Nat), x_20 = nI e_23 ∧ (∃ (ix_24 : Nat), (nI i) + (nI j) = nI ix_24 ∧ (∃ (c_25 : Nat), v_22 = nI c_25 ∧ (∃ (F_26 : Nat → Nat × Nat) (i_27 : Nat) (y_28 : Nat → Nat) (G_29 : Gr) (T_30 : Tr), ((Y n 0) = y_28 0 ∧ RG S_19 F_26 i_27 y_28 G_29 T_30 ∧ e_23 + 1 = G_29.n ∧ (G_29.ev e_23).ch = none ∧ (G_29.ev e_23).tg = 8192 ∧ e_23 + 1 ∉ T_30.od ∧ T_30.ok ∧ ix_24 ≤ (T_30.od.filter (snW G_29 (G_29.ev e_23).pa)).length ∧ c_25 < 2000000) ∧ (4 + dC1 R n j) + (ad1 (R_15.Q.G p_11) s_17) ≤ 4 + dC1 R p.toNatClampNeg (tNs R) ∧ (24 + dC2 R n j) + (ad2 (R_15.Q.G p_11) s_17) ≤ 24 + dC2 R p.toNatClampNeg (tNs R) ∧ (∀ (S_31 : MM), (inQ2 S_19 S_31 F_26 i_27 y_28 G_29 T_30 e_23 ix_24 c_25) → (∃ k1, k1 < k ∧ I_rin2 t p x F z Y R kz S k1 [(0, .inr (.inr (some t))), (1, .inl (nI n)), (2, .inl (nI i)), (3, .inr (.inr (some (Y n 0)))), (4, .inl (nI (agE (R.Q.G n) n).length)), (5, .inl ((nI j) + (1 : Int32)))] [] S_31 ((4 + dC1 R n j) + (ad1 (R_15.Q.G p_11) s_17)) ((24 + dC2 R n j) + (ad2 (R_15.Q.G p_11) s_17))))))))))))))))))
      obtain ⟨hM0, hA⟩ := hp
      obtain ⟨hG, hC⟩ := hA n hn
      obtain ⟨h1, hF, hK, h51, hy, hRun, hGT, hOw, hGn, hGc⟩ := hM
      have g0 := (hM0 2 n hn).2.1
      have hnm := g0.nm
      have hol := g0.odl
      have hRun : Run n (owN (R.Q.G n) n) (insO i (L.take j)) (R.Q.G n) (R.Q.T n) G1 T1 := hRun
      have hGn : G1.n = (R.Q.G n).n + j := hGn
      have hGc : G1.cn (owN (R.Q.G n) n) = (R.Q.G n).cn (owN (R.Q.G n) n) + j := hGc
      have hLl : L.length ≤ 8192 := by rcases hro with q | q <;> omega
      have hfl : visN (R.Q.G n) (R.Q.T n) ≤ (R.Q.T n).od.length := List.length_filter_le _ _
      have hiv : i ≤ visN (R.Q.G n) (R.Q.T n) := hX.1
      have cp : p.toNatClampNeg = n := by rw [hpn]; exact nI_clamp (by omega)
      have cy : tNs R = L.length := by
        unfold tNs
        rw [hsy]
        exact List.length_map _
      have e18 : mI S1 1518 t = nI L.length := by rw [hTx.1, List.length_map]
      have eG : ((rtE R).sG n G1 T1).Q.G n = G1 := upF_s
      have eT : ((rtE R).sG n G1 T1).Q.T n = T1 := upF_s
      have budget : ∀ j', j' ≤ L.length → 4 + dC1 R n j' ≤ 4 + dC1 R p.toNatClampNeg (tNs R) ∧ 24 + dC2 R n j' ≤ 24 + dC2 R p.toNatClampNeg (tNs R) := fun j' hj' => by
        rw [cp, cy]
        have := rA_mono ((R.Q.G n).cn (owN (R.Q.G n) n)) hj'
        unfold dC1 dC2
        omega
      rw [e18]
      refine ⟨(h1 0).1, if_le (by omega) (by omega) (fun w => ?_) (fun w => ?_)⟩
      · have hjm : j = L.length := by omega
        subst hjm
        obtain ⟨b1, b2⟩ := budget L.length (Nat.le_refl _)
        refine ⟨(h1 0).1, rfl, _, rfl, L.length, rfl, F1, z, Y1, (rtE R).sG n G1 T1, kz, n, true, ⟨h1, hn, hy.symm, rfl, fun hne => ?_, hLl⟩, b1, b2, fun S10 hQ => ?_⟩
        · have hr := hro.resolve_left hne
          show (R.C n).length < 8192
          omega
        · obtain ⟨⟨q1, q2, q3⟩, q4⟩ := hQ
          rw [eG, eT, sG_sP] at q1
          have q1 : MD S10 F1 t z Y1 (inN R n G1 T1 L.length) kz := q1
          have kt := q4.2.1 t (h1 0).1.1 (fun w => by
            have w : (F1 t).1 = 101 + n := w
            rw [(h1 0).2] at w
            have w : 100 = 101 + n := w
            omega)
          rw [List.take_length] at hRun
          have e19 : mI S10 1518 t = nI L.length := (kt.1 _).trans e18
          rw [e19]
          exact ⟨(q1 0).1, rfl, trivial, ⟨_, rfl, n, i, L, G1, T1, hn, hpn, hX, hsy, hro, hRun, rfl, F1, z, Y1, q1, hF, Keep.trN hK q2 (fun b hb q => by rw [hF b hb] at q; exact q), q3.trans h51⟩, b1, b2⟩
      · have hne : L.length ≠ 0 := by omega
        have hr := hro.resolve_left hne
        have hOw : OwSl G1 n (owN (R.Q.G n) n) := hOw hne
        obtain ⟨H, hH, -, -⟩ := hd_ex hGT.1
        obtain ⟨c1, c2⟩ := dC_s R n j hGc
        obtain ⟨b1, b2⟩ := budget (j + 1) w
        rw [← c1] at b1
        rw [← c2] at b2
        have hGn9 : G1.n = (R.Q.G n).n + j := hGn
        refine ⟨rfl, n, rfl, F1, z, Y1, (rtE R).sG n G1 T1, kz, owN (R.Q.G n) n, H, ⟨h1, hn, ?_⟩, ?_, ?_, fun v S19 hQ => ?_⟩
        · rw [eG, eT]; exact own_pre hGT hOw (by omega) (by omega) hH
        · rw [eG]; omega
        · rw [eG]; omega
        · rw [eG, eT] at hQ
          rw [eG]
          obtain ⟨rfl, F2, Y2, h2, f2, k2, m2, y2, kk2⟩ := hQ
          rw [sG_sG] at h2
          obtain ⟨pa1, pa2, pa3⟩ := own_pa G1 (owN (R.Q.G n) n) n G1.cn H
          have eG2 : ((rtE R).sG n (pGr (eGr G1 (owN (R.Q.G n) n) n) (owN (R.Q.G n) n) G1.cn H) T1).Q.G n = pGr (eGr G1 (owN (R.Q.G n) n) n) (owN (R.Q.G n) n) G1.cn H := upF_s
          have eT2 : ((rtE R).sG n (pGr (eGr G1 (owN (R.Q.G n) n) n) (owN (R.Q.G n) n) G1.cn H) T1).Q.T n = T1 := upF_s
          have g2 := (h2 2 n hn).2.1
          rw [eG2, eT2] at g2
          have hix : i + j ≤ visN G1 T1 := by omega
          have r17 := h1 1 17 (by decide)
          have r15 := h1 1 15 (by decide)
          have r17' := h2 1 17 (by decide)
          have no15 : ∀ {x v}, F1 x = (100, v) → v ≠ 115 → ¬ (x = z 15 ∨ (100 < (F1 x).1 ∧ (F1 x).1 < 110)) := fun {x v} e h9 q => by
            rcases q with q | q
            · rw [q, r15.2.1] at e
              injection e with _ e
              omega
            · rw [e] at q
              have q : 100 < 100 ∧ 100 < 110 := q
              omega
          have kt2 := kk2.2.1 t (h1 0).1.1 (no15 (h1 0).2 (by decide))
          have k17 := kk2.2.1 (z 17) r17.2.2.1.1 (no15 r17.2.1 (by decide))
          have hmem : L.getD j 0 ∈ L := by
            rw [List.getD_eq_getElem?_getD, List.getElem?_eq_getElem w]
            exact List.getElem_mem w
          have hcc := hLc _ hmem
          have ev : eI S19 (z 17) (nI j).toNatClampNeg = nI (L.getD j 0) := by
            rw [nI_clamp (by omega), k17.2.2.2.1, hTx.2.2 j (by rw [List.length_map]; exact w), List.getD_eq_getElem?_getD, List.getElem?_map, List.getElem?_eq_getElem w, List.getD_eq_getElem?_getD, List.getElem?_eq_getElem w]
            rfl
          refine ⟨(h2 0).1, rdI (v := nI (L.getD j 0)) r17'.1 r17'.2.2.1 (inRn (N := 32768) r17'.2.2.2 (by omega) (by decide)) ev ⟨rfl, G1.n, rfl, i + j, nI_add _ _, L.getD j 0, rfl, F2, 101 + n, Y2 n, _, T1, ⟨(hy.symm.trans (y2 n).symm), g2, ?_, pa2, pa3, fun hx => ?_, hGT.2.2.1, ?_, by omega⟩, by omega, by omega, fun S34 hE => ?_⟩⟩
          · show G1.n + 1 = (eGr G1 (owN (R.Q.G n) n) n).n + 1
            rw [(eGr_n G1 _ n).1]
          · obtain ⟨k9, e9, l9, -⟩ := (hGT.2.2.2.1 _).1 hx
            omega
          · rw [pa1, own_len hGT hOw (by omega)]; exact hix
          · obtain ⟨T', U, V, a1, a3, a4, aU, aV, a5⟩ := hE
            rw [pa1] at a1
            have hO := own_ins hGT hOw (by omega) (by omega) hH hix (show L.getD j 0 < 2000000 by omega) a1 aU aV
            obtain ⟨x1, x2, x3, x4⟩ := hO.nx hOw
            have hvd : visN ((pGr (eGr G1 (owN (R.Q.G n) n) n) (owN (R.Q.G n) n) G1.cn H).setI G1.n (i + j) (L.getD j 0)) T' = visN G1 T1 + 1 := by
              obtain ⟨H', hH', hst⟩ := hO
              exact hst.visI (fun e => by cases e) (hOw.gt hGT (by omega)) (fun q hq => ((hH'.1 q).1 hq).1)
            have hFO : FO S34 F2 := fun b hb => (a4.1 b (h2 12 b hb)).1
            have hMD := h2.gr hn a4 a5 a3 (fun _ _ => rfl) (fun _ _ => rfl) hFO (fun s => by rw [eG2, setI_cn]; exact Nat.le_refl _) (fun q hq => by
              rw [eT2, aU] at hq
              rw [aV]
              rcases List.mem_append.1 hq with w | w
              · exact List.mem_append_left _ w
              · exact List.mem_append_right _ (List.mem_cons_of_mem _ w))
            have eY : (fun k => if 116 ≤ k then Y2 n k else Y2 n k) = Y2 n := funext (fun k => by split <;> rfl)
            rw [eY, upY_own, sG_sG] at hMD
            have nog : ∀ {q v}, F2 q = (100, v) → ¬ gO F2 (101 + n) q := fun {q v} e h9 => by
              have := h9.own
              rw [e] at this
              have : 100 = 101 + n := this
              omega
            have kt := a4.2.1 t (h2 0).1.1 (nog (h2 0).2)
            have kz17 := a4.2.1 (z 17) r17'.2.2.1.1 (nog r17'.2.1)
            have hF2 : ∀ b, b ∈ mL S → F2 b = F b := fun b hb => (f2 b (hK.1 b hb).1).trans (hF b hb)
            have kA : Keep (fun c => 100 ≤ (F c).1) S S19 := Keep.trN hK k2 (fun b hb q => by rw [hF b hb] at q; exact q)
            have etk : L.take (j + 1) = L.take j ++ [L.getD j 0] := by
              rw [List.take_succ, List.getD_eq_getElem?_getD, List.getElem?_eq_getElem w]; rfl
            refine ⟨k - 1, by omega, n, i, L, j + 1, F2, Y2, _, T', by omega, hn, hpn, hX, hsy, hLc, hro, ⟨hMD, hF2, Keep.trN kA a4 (fun b hb q => by have := q.own; rw [hF2 b hb] at this; omega), (kt.1 1551).trans (m2.trans h51), (y2 n).trans hy, ?_, x4, fun _ => x3, x1.trans (by rw [hGn]; rfl), x2.trans (by rw [hGc]; rfl)⟩, ⟨?_, hTx.2.1, fun q hq => ?_⟩, by omega, by rw [nI_1], rfl, by omega, by omega⟩
            · rw [etk, insO_snoc, List.length_take, Nat.min_eq_left (Nat.le_of_lt w)]
              exact hRun.snoc hO
            · rw [kt.1, kt2.1]; exact hTx.1
            · rw [kz17.2.2.2.1, k17.2.2.2.1]; exact hTx.2.2 q hq
theorem u_rin0 (l : Launch) (hlt : l.stackTraces = false) : UsX l yX14_insert0 (Cond.code yX14_insert0 cX14_insert0 6 (some .int)) (some .int) 8 130 15 T_rin0 := by
  intro Rc Rs av S cs sl K Kx h
  unfold T_rin0 at h
  split at h
  · rename_i t_o p x
    obtain ⟨t, rfl, h_1⟩ := pa_of h
    obtain ⟨F, z, Y, R, kz, hp, hc, hs, hk, hx0, hx1, hx2⟩ := h_1
    refine ⟨(sp_rin0 t p x F z Y R kz), c_rin0 l hlt t p x F z Y R kz, fun _ _ h9 => ⟨_, _, h9.1, (h9.2.1 0).1⟩, ⟨rfl, hp⟩, hc, hs, fun v9 S' h8 => by
      obtain ⟨v8, h7, h8⟩ := h8
      cases h7
      exact hk _ _ h8, fun _ _ q => by
      rcases q with ⟨rfl, q⟩ | ⟨rfl, q⟩ | ⟨rfl, q⟩
      · obtain ⟨q, rfl⟩ := q
        exact hx0 q
      · exact hx1 _ q
      · exact hx2 _ q⟩
  · exact h.elim
