/-! ===== The class's calls again: what a refused call costs ===== -/
noncomputable def nc_i (P : Prop) (a : Nat) : Nat := ift P a 0
theorem nc_it {P : Prop} {a : Nat} (h : P) : nc_i P a = a := ift_t h
theorem nc_in {P : Prop} {a : Nat} (h : ¬ P) : nc_i P a = 0 := ift_f h
theorem nc_ile {P : Prop} {a b : Nat} (h : P → a ≤ b) : nc_i P a ≤ b := by
  by_cases c : P
  · rw [nc_it c]; exact h c
  · rw [nc_in c]; exact Nat.zero_le _
def T_wac2 : TR := fun Rc Rs av S cs sl K Kx => match av with
  | [.inr (.inr t_o), .inl p, .inl s] => pa t_o fun t => (∃ (F : Nat → Nat × Nat) (X : Nat → GX) (kz : Nat → Nat) (Q : Ab), (WT S F t X kz Q) ∧ cs + (nc_i (∃ n i, n < 4 ∧ p = nI n ∧ i < 8 ∧ s = nI i) (anC kz Q p s) + 2) ≤ Rc ∧ sl + (nc_i (∃ n i, n < 4 ∧ p = nI n ∧ i < 8 ∧ s = nI i) (anZ kz Q p s) + 12) ≤ Rs ∧ ((∀ (v : Int32) (S' : MM), (∃ n i, n < 4 ∧ p = nI n ∧ i < 8 ∧ s = nI i ∧ v = nI (bPuts [] (sumA (Q.G n) n)).length ∧ wtQ S S' F t X (upF kz (20 + i) (capN (sumA (Q.G n) n).length (kz (20 + i)) 0)) (Q.sSl (upF Q.sl i (bPuts [] (sumA (Q.G n) n))))) → K (some (.inl v)) S' (cs + (nc_i (∃ n i, n < 4 ∧ p = nI n ∧ i < 8 ∧ s = nI i) (anC kz Q p s) + 2)) (sl + (nc_i (∃ n i, n < 4 ∧ p = nI n ∧ i < 8 ∧ s = nI i) (anZ kz Q p s) + 12))) ∧ ((np 4 p ∨ np 8 s) → Kx 1 S (cs + (nc_i (∃ n i, n < 4 ∧ p = nI n ∧ i < 8 ∧ s = nI i) (anC kz Q p s) + 2)) (sl + (nc_i (∃ n i, n < 4 ∧ p = nI n ∧ i < 8 ∧ s = nI i) (anZ kz Q p s) + 12)))))
  | _ => False
noncomputable def sp_wac2 (t : Nat) (p : Int32) (s : Int32) (F : Nat → Nat × Nat) (X : Nat → GX) (kz : Nat → Nat) (Q : Ab) : Sp := (fun av S => av = [.inr (.inr (some t)), .inl p, .inl s] ∧ (WT S F t X kz Q), fun _ S => nc_i (∃ n i, n < 4 ∧ p = nI n ∧ i < 8 ∧ s = nI i) (anC kz Q p s) + 2, fun _ S => nc_i (∃ n i, n < 4 ∧ p = nI n ∧ i < 8 ∧ s = nI i) (anZ kz Q p s) + 12, fun _ S rv S' => ∃ v, rv = (some (.inl v)) ∧ (∃ n i, n < 4 ∧ p = nI n ∧ i < 8 ∧ s = nI i ∧ v = nI (bPuts [] (sumA (Q.G n) n)).length ∧ wtQ S S' F t X (upF kz (20 + i) (capN (sumA (Q.G n) n).length (kz (20 + i)) 0)) (Q.sSl (upF Q.sl i (bPuts [] (sumA (Q.G n) n))))), fun _ S E S' => (E = 1 ∧ (np 4 p ∨ np 8 s) ∧ S' = S))
set_option maxRecDepth 100000 in
set_option maxHeartbeats 2000000 in
theorem c_wac2 (l : Launch) (hlt : l.stackTraces = false) : ∀ (t : Nat) (p : Int32) (s : Int32) (F : Nat → Nat × Nat) (X : Nat → GX) (kz : Nat → Nat) (Q : Ab), CtX l yX11_announce (Cond.code yX11_announce cX11_announce 5 (some .int)) (some .int) 8 130 (sp_wac2 t p s F X kz Q) := by
  intro t p s F X kz Q
  refine CtX.of hlt (fX11, nX11, aX11, iX11, lX11, [(108, 0, 2, 3, T_wpo), (242, 0, 2, 3, T_wso9), (246, 0, 2, 0, T_pws)], qX11, gX11, []) false tX11_announce (fun _ _ _ => none) (by decide) (by decide) kX11_announce ⟨_, _, rfl⟩ fX11_ok nX11_ok aX11_ok iX11_ok lX11_ok (fun p e R s m args below meth c Q D cy z r A C hR1 hR2 => List.forall_mem_cons.mpr ⟨cOK_use (fun _ _ _ _ _ _ _ _ h => let ⟨sp, h1, h2, h3⟩ := u_wpo l hlt _ _ _ _ _ _ _ _ h; ⟨sp, cOKx_V C h1 vX11_announce_108 ⟨by decide, by decide, by decide +kernel⟩ ⟨by rw [hR1]; decide, by rw [hR2]; decide⟩ (k := 12) (T := TX11) (N := 15) rfl (by decide) h2, h3⟩), List.forall_mem_cons.mpr ⟨cOK_use (fun _ _ _ _ _ _ _ _ h => let ⟨sp, h1, h2, h3⟩ := u_wso9 l hlt _ _ _ _ _ _ _ _ h; ⟨sp, cOKx_V C h1 vX11_announce_242 ⟨by decide, by decide, by decide +kernel⟩ ⟨by rw [hR1]; decide, by rw [hR2]; decide⟩ (k := 12) (T := TX11) (N := 15) rfl (by decide) h2, h3⟩), List.forall_mem_cons.mpr ⟨cOK_use (fun _ _ _ _ _ _ _ _ h => let ⟨sp, h1, h2, h3⟩ := u_pws l _ _ _ _ _ _ _ _ h; ⟨sp, cOK_V C h1 vX11_announce_246 ⟨by decide, by decide, by decide +kernel⟩ ⟨by rw [hR1]; decide, by rw [hR2]; decide⟩ (k := 11) (T := TX10) (N := 6) rfl (by decide) h2, h3⟩), fun _ h => absurd h List.not_mem_nil⟩⟩⟩) qX11_ok gX11_ok (fun _ h => absurd h List.not_mem_nil) ?_ ?_
  · rintro _ S ⟨rfl, hp⟩
    refine ⟨Nat.le_of_ble_eq_true rfl, 300, ?_⟩
    show (0 = 0 ∧ (∃ (F_1 : Nat → Nat × Nat) (z_2 : Nat → Nat), (SfA S F_1 t z_2) ∧ 0 + 1 ≤ nc_i (∃ n i, n < 4 ∧ p = nI n ∧ i < 8 ∧ s = nI i) (anC kz Q p s) + 2 ∧ 0 + 6 ≤ nc_i (∃ n i, n < 4 ∧ p = nI n ∧ i < 8 ∧ s = nI i) (anZ kz Q p s) + 12 ∧ ((∀ (x_4 : Option Nat) (S_3 : MM), (S_3 = S ∧ ∃ n, n < 4 ∧ p = nI n ∧ x_4 = some (z_2 (30 + n))) → (0 = 0 ∧ (∃ (F_5 : Nat → Nat × Nat) (z_6 : Nat → Nat), (SfA S_3 F_5 t z_6) ∧ 0 + 1 + 1 ≤ nc_i (∃ n i, n < 4 ∧ p = nI n ∧ i < 8 ∧ s = nI i) (anC kz Q p s) + 2 ∧ 0 + 6 + 6 ≤ nc_i (∃ n i, n < 4 ∧ p = nI n ∧ i < 8 ∧ s = nI i) (anZ kz Q p s) + 12 ∧ ((∀ (x_8 : Option Nat) (S_7 : MM), (S_7 = S_3 ∧ ∃ n, n < 8 ∧ s = nI n ∧ x_8 = some (z_6 (20 + n))) → (0 = 0 ∧ ((pa x_4 fun a_9 => ((pa x_8 fun a_10 => (∃ (F_11 : Nat → Nat × Nat) (i_12 p_13 : Nat) (A_14 : Nat → Nat) (X_15 : GX) (G_16 : Gr) (T_17 : Tr) (H_18 : List Nat) (W_19 : Nat → Nat) (d_20 : Nat) (B_21 : List Nat), (wsP S_7 F_11 i_12 a_9 a_10 p_13 A_14 X_15 G_16 T_17 H_18 W_19 d_20 B_21) ∧ 0 + 1 + 1 + (addNC (sumA G_16 p_13).length (mN S_7 d_20) 0) ≤ nc_i (∃ n i, n < 4 ∧ p = nI n ∧ i < 8 ∧ s = nI i) (anC kz Q p s) + 2 ∧ 0 + 6 + 6 + (addNS (sumA G_16 p_13).length (mN S_7 d_20) 0) ≤ nc_i (∃ n i, n < 4 ∧ p = nI n ∧ i < 8 ∧ s = nI i) (anZ kz Q p s) + 12 ∧ (∀ (S_22 : MM), (∃ d', App (clr S_7 a_10) S_22 a_10 d_20 d' [] (sumA G_16 p_13)) → (pa x_8 fun a_23 => isO S_22 2 a_23 ∧ (([] : List MV) = [] ∧ mret (some .int) (sp_wac2 t p s F X kz Q) [.inr (.inr (some t)), .inl p, .inl s] S (some (.inl (mI S_22 201 a_23))) S_22 (0 + 1 + 1 + (addNC (sumA G_16 p_13).length (mN S_7 d_20) 0)) (0 + 6 + 6 + (addNS (sumA G_16 p_13).length (mN S_7 d_20) 0)))))))))))) ∧ ((np 8 s) → mthr (sp_wac2 t p s F X kz Q) [.inr (.inr (some t)), .inl p, .inl s] S 1 S_3 (0 + 1 + 1) (0 + 6 + 6)))))) ∧ ((np 4 p) → mthr (sp_wac2 t p s F X kz Q) [.inr (.inr (some t)), .inl p, .inl s] S 1 S (0 + 1) (0 + 6)))))
    obtain ⟨z, hz⟩ := hp
    refine ⟨rfl, F, z, hz.1.1, by omega, by omega, fun v S3 h => ?_, fun h => ⟨⟨rfl, Or.inl h, rfl⟩, by show _ ≤ nc_i (∃ n i, n < 4 ∧ p = nI n ∧ i < 8 ∧ s = nI i) (anC kz Q p s) + 2; omega, by show _ ≤ nc_i (∃ n i, n < 4 ∧ p = nI n ∧ i < 8 ∧ s = nI i) (anZ kz Q p s) + 12; omega⟩⟩
    obtain ⟨rfl, n, hn, rfl, rfl⟩ := h
    refine ⟨rfl, F, z, hz.1.1, by omega, by omega, fun v S4 h => ?_, fun h => ⟨⟨rfl, Or.inr h, rfl⟩, Nat.le_trans (show _ ≤ 2 by omega) (Nat.le_add_left _ _), Nat.le_trans (show _ ≤ 12 by omega) (Nat.le_add_left _ _)⟩⟩
    obtain ⟨rfl, i, hi, rfl, rfl⟩ := h
    obtain ⟨A, H, W, r, a', d, ea, kn, kr, cu, hP⟩ := hz.2.1 n hn
    obtain ⟨dd, hB⟩ := hz.2.2.2.2.1 i hi
    have cn : (nI n).toNatClampNeg = n := nI_clamp (by omega)
    have ci : (nI i).toNatClampNeg = i := nI_clamp (by omega)
    have eC : anC kz Q (nI n) (nI i) = addNC (sumA (Q.G n) n).length (mN S4 dd) 0 := by unfold anC; rw [cn, ci, hB.2.2.2]
    have eZ : anZ kz Q (nI n) (nI i) = addNS (sumA (Q.G n) n).length (mN S4 dd) 0 := by unfold anZ; rw [cn, ci, hB.2.2.2]
    refine ⟨rfl, pa_i rfl (pa_i rfl ⟨F, n + 1, n, A, X n, Q.G n, Q.T n, H, W, dd, Q.sl i, ⟨hP.1.1, hP.1.2.2.1, hP.1.2.2.2.1, hP.gi, hz.fo, by omega, hB.1, ?_, ?_⟩, ?_, ?_, fun S5 h5 => ?_⟩)⟩
    · rw [hB.2.1]; show 50 + i ≠ n + 1; omega
    · rw [hB.2.2.1]; show 50 + i ≠ n + 1; omega
    · rw [nc_it ⟨n, i, hn, rfl, hi, rfl⟩, eC]; omega
    · rw [nc_it ⟨n, i, hn, rfl, hi, rfl⟩, eZ]; omega
    · obtain ⟨d5, h5⟩ := h5
      obtain ⟨F', g1, g2, g3, g4⟩ := App.ownC hB hz.fo (by omega) h5
      refine ⟨g1.1.1, rfl, trivial, ⟨_, rfl, n, i, hn, rfl, hi, rfl, g1.1.2.2.2.1, F', ⟨z, hz.slot hi ⟨d5, ?_⟩ (fun k hk => upF_o hk) g4 g2 g3⟩, g2, g4.mono (fun b _ e => by show cO (F b).1; rw [e]; exact ⟨by omega, by omega⟩)⟩, ?_, ?_⟩
      · rw [upF_s]; exact g1
      · show _ ≤ nc_i _ (anC kz Q (nI n) (nI i)) + 2; rw [nc_it ⟨n, i, hn, rfl, hi, rfl⟩, eC]; omega
      · show _ ≤ nc_i _ (anZ kz Q (nI n) (nI i)) + 12; rw [nc_it ⟨n, i, hn, rfl, hi, rfl⟩, eZ]; omega
  · exact fun _ _ _ _ _ h => by cases h
theorem u_wac2 (l : Launch) (hlt : l.stackTraces = false) : UsX l yX11_announce (Cond.code yX11_announce cX11_announce 5 (some .int)) (some .int) 8 130 12 T_wac2 := by
  intro Rc Rs av S cs sl K Kx h
  unfold T_wac2 at h
  split at h
  · rename_i t_o p s
    obtain ⟨t, rfl, h_1⟩ := pa_of h
    obtain ⟨F, X, kz, Q, hp, hc, hs, hk, hx0⟩ := h_1
    refine ⟨(sp_wac2 t p s F X kz Q), c_wac2 l hlt t p s F X kz Q, fun _ _ h9 => ⟨_, _, h9.1, h9.2.choose_spec.1.1.1⟩, ⟨rfl, hp⟩, hc, hs, fun v9 S' h8 => by
      obtain ⟨v8, h7, h8⟩ := h8
      cases h7
      exact hk _ _ h8, fun _ _ q => by
      rcases q with ⟨rfl, q⟩
      · obtain ⟨q, rfl⟩ := q
        exact hx0 q⟩
  · exact h.elim
def T_wvi2 : TR := fun Rc Rs av S cs sl K Kx => match av with
  | [.inr (.inr t_o), .inl b] => pa t_o fun t => (∃ (F : Nat → Nat × Nat) (X : Nat → GX) (kz : Nat → Nat) (Q : Ab), (WT S F t X kz Q ∧ AbM Q) ∧ cs + (nc_i (∃ i q, i < 8 ∧ b = nI i ∧ Q.mp i = some q) (vgC (kz 10) (viN Q b.toNatClampNeg)) + 2) ≤ Rc ∧ sl + (nc_i (∃ i q, i < 8 ∧ b = nI i ∧ Q.mp i = some q) (vgZ (kz 10) (viN Q b.toNatClampNeg)) + 12) ≤ Rs ∧ ((∀ (v : Int32) (S' : MM), (∃ i p, i < 8 ∧ b = nI i ∧ Q.mp i = some p ∧ v = nI (vwG (Q.G p) (Q.ms i) (Q.T p).od).length ∧ wtQ S S' F t X (upF kz 10 (vgN (kz 10) (viN Q i))) (Q.sVw (vwG (Q.G p) (Q.ms i) (Q.T p).od))) → K (some (.inl v)) S' (cs + (nc_i (∃ i q, i < 8 ∧ b = nI i ∧ Q.mp i = some q) (vgC (kz 10) (viN Q b.toNatClampNeg)) + 2)) (sl + (nc_i (∃ i q, i < 8 ∧ b = nI i ∧ Q.mp i = some q) (vgZ (kz 10) (viN Q b.toNatClampNeg)) + 12))) ∧ ((np 8 b) → Kx 1 S (cs + (nc_i (∃ i q, i < 8 ∧ b = nI i ∧ Q.mp i = some q) (vgC (kz 10) (viN Q b.toNatClampNeg)) + 2)) (sl + (nc_i (∃ i q, i < 8 ∧ b = nI i ∧ Q.mp i = some q) (vgZ (kz 10) (viN Q b.toNatClampNeg)) + 12))) ∧ ((∃ i, i < 8 ∧ b = nI i ∧ Q.mp i = none) → Kx 2 S (cs + (nc_i (∃ i q, i < 8 ∧ b = nI i ∧ Q.mp i = some q) (vgC (kz 10) (viN Q b.toNatClampNeg)) + 2)) (sl + (nc_i (∃ i q, i < 8 ∧ b = nI i ∧ Q.mp i = some q) (vgZ (kz 10) (viN Q b.toNatClampNeg)) + 12)))))
  | _ => False
noncomputable def sp_wvi2 (t : Nat) (b : Int32) (F : Nat → Nat × Nat) (X : Nat → GX) (kz : Nat → Nat) (Q : Ab) : Sp := (fun av S => av = [.inr (.inr (some t)), .inl b] ∧ (WT S F t X kz Q ∧ AbM Q), fun _ S => nc_i (∃ i q, i < 8 ∧ b = nI i ∧ Q.mp i = some q) (vgC (kz 10) (viN Q b.toNatClampNeg)) + 2, fun _ S => nc_i (∃ i q, i < 8 ∧ b = nI i ∧ Q.mp i = some q) (vgZ (kz 10) (viN Q b.toNatClampNeg)) + 12, fun _ S rv S' => ∃ v, rv = (some (.inl v)) ∧ (∃ i p, i < 8 ∧ b = nI i ∧ Q.mp i = some p ∧ v = nI (vwG (Q.G p) (Q.ms i) (Q.T p).od).length ∧ wtQ S S' F t X (upF kz 10 (vgN (kz 10) (viN Q i))) (Q.sVw (vwG (Q.G p) (Q.ms i) (Q.T p).od))), fun _ S E S' => (E = 1 ∧ (np 8 b) ∧ S' = S) ∨ (E = 2 ∧ (∃ i, i < 8 ∧ b = nI i ∧ Q.mp i = none) ∧ S' = S))
set_option maxRecDepth 100000 in
set_option maxHeartbeats 2000000 in
theorem c_wvi2 (l : Launch) (hlt : l.stackTraces = false) : ∀ (t : Nat) (b : Int32) (F : Nat → Nat × Nat) (X : Nat → GX) (kz : Nat → Nat) (Q : Ab), CtX l yX11_view (Cond.code yX11_view cX11_view 4 (some .int)) (some .int) 8 130 (sp_wvi2 t b F X kz Q) := by
  intro t b F X kz Q
  refine CtX.of hlt (fX11, nX11, aX11, iX11, lX11, [(208, 0, 2, 1, T_wbp), (218, 0, 2, 1, T_std), (221, 0, 2, 0, T_wav)], qX11, gX11, thX11) false tX11_view (fun _ S => look [(40, ([0,1,3], I_vi t b F X kz Q S))]) (by decide) (by decide) kX11_view ⟨_, _, rfl⟩ fX11_ok nX11_ok aX11_ok iX11_ok lX11_ok (fun p e R s m args below meth c Q D cy z r A C hR1 hR2 => List.forall_mem_cons.mpr ⟨cOK_use (fun _ _ _ _ _ _ _ _ h => let ⟨sp, h1, h2, h3⟩ := u_wbp l hlt _ _ _ _ _ _ _ _ h; ⟨sp, cOKx_V C h1 vX11_view_208 ⟨by decide, by decide, by decide +kernel⟩ ⟨by rw [hR1]; decide, by rw [hR2]; decide⟩ (k := 12) (T := TX11) (N := 15) rfl (by decide) h2, h3⟩), List.forall_mem_cons.mpr ⟨cOK_use (fun _ _ _ _ _ _ _ _ h => let ⟨sp, h1, h2, h3⟩ := u_std l _ _ _ _ _ _ _ _ h; ⟨sp, cOK_V C h1 vX11_view_218 ⟨by decide, by decide, by decide +kernel⟩ ⟨by rw [hR1]; decide, by rw [hR2]; decide⟩ (k := 5) (T := TX4) (N := 16) rfl (by decide) h2, h3⟩), List.forall_mem_cons.mpr ⟨cOK_use (fun _ _ _ _ _ _ _ _ h => let ⟨sp, h1, h2, h3⟩ := u_wav l _ _ _ _ _ _ _ _ h; ⟨sp, cOK_V C h1 vX11_view_221 ⟨by decide, by decide, by decide +kernel⟩ ⟨by rw [hR1]; decide, by rw [hR2]; decide⟩ (k := 12) (T := TX11) (N := 15) rfl (by decide) h2, h3⟩), fun _ h => absurd h List.not_mem_nil⟩⟩⟩) qX11_ok gX11_ok (fun q hq => ⟨thX11_ok q hq, by decide, by decide⟩) ?_ ?_
  · rintro _ S ⟨rfl, hp⟩
    refine ⟨Nat.le_of_ble_eq_true rfl, 300, ?_⟩
    show (0 = 0 ∧ (∃ (F_1 : Nat → Nat × Nat) (z_2 : Nat → Nat) (ft_3 fo_4 : Nat) (mp_5 : Nat → Option Nat) (ms_6 : Nat → Nat), (SfA S F_1 t z_2 ∧ SfB S F_1 t z_2 ft_3 fo_4 mp_5 ms_6) ∧ 0 + 1 ≤ nc_i (∃ i q, i < 8 ∧ b = nI i ∧ Q.mp i = some q) (vgC (kz 10) (viN Q b.toNatClampNeg)) + 2 ∧ 0 + 6 ≤ nc_i (∃ i q, i < 8 ∧ b = nI i ∧ Q.mp i = some q) (vgZ (kz 10) (viN Q b.toNatClampNeg)) + 12 ∧ ((∀ (x_8 : Int32) (S_7 : MM), (S_7 = S ∧ ∃ i, i < 8 ∧ b = nI i ∧ x_8 = stI (mp_5 i)) → ((¬ x_8 = (-1 : Int32) → (True ∧ (isO S_7 12 t ∧ (isO (sI S_7 1211 t (0 : Int32)) 12 t ∧ (pa (mR (sI S_7 1211 t (0 : Int32)) 1203 t) fun a_9 => a_9 ∈ mL (sI S_7 1211 t (0 : Int32)) ∧ ¬ mK (sI S_7 1211 t (0 : Int32)) a_9 < 21 ∧ mK (sI S_7 1211 t (0 : Int32)) a_9 < 29 ∧ inR (sI S_7 1211 t (0 : Int32)) a_9 x_8 ∧ (pa (eR (sI S_7 1211 t (0 : Int32)) a_9 x_8.toNatClampNeg) fun a_10 => isO (sI S_7 1211 t (0 : Int32)) 11 a_10 ∧ (pa (mR (sI S_7 1211 t (0 : Int32)) 1101 a_10) fun a_11 => isO (sI S_7 1211 t (0 : Int32)) 6 a_11 ∧ (pa (mR (sI S_7 1211 t (0 : Int32)) 600 a_11) fun a_12 => isO (sI S_7 1211 t (0 : Int32)) 5 a_12 ∧ (∃ k1, I_vi t b F X kz Q S k1 [(0, .inr (.inr (some t))), (1, .inl b), (3, .inr (.inr (mR (sI S_7 1211 t (0 : Int32)) 512 a_12)))] [] (sI S_7 1211 t (0 : Int32)) (0 + 1) (0 + 6)))))))))) ∧ (x_8 = (-1 : Int32) → (mthr (sp_wvi2 t b F X kz Q) [.inr (.inr (some t)), .inl b] S 2 S_7 (0 + 1 + 1) (0 + 6 + 6))))) ∧ ((np 8 b) → mthr (sp_wvi2 t b F X kz Q) [.inr (.inr (some t)), .inl b] S 1 S (0 + 1) (0 + 6)))))
    obtain ⟨⟨z, hz⟩, hM⟩ := hp
    refine ⟨rfl, F, z, _, _, _, _, ⟨hz.1.1, hz.1.2.1⟩, by omega, by omega, fun v S3 h => ?_, fun h => ⟨Or.inl ⟨rfl, h, rfl⟩, by show _ ≤ nc_i (∃ i q, i < 8 ∧ b = nI i ∧ Q.mp i = some q) (vgC (kz 10) (viN Q b.toNatClampNeg)) + 2; omega, by show _ ≤ nc_i (∃ i q, i < 8 ∧ b = nI i ∧ Q.mp i = some q) (vgZ (kz 10) (viN Q b.toNatClampNeg)) + 12; omega⟩⟩
    obtain ⟨rfl, i, hi, rfl, rfl⟩ := h
    cases e : Q.mp i with
    | none => exact ⟨fun w => absurd rfl w, fun _ => ⟨Or.inr ⟨rfl, ⟨i, hi, rfl, e⟩, rfl⟩, Nat.le_trans (show _ ≤ 2 by omega) (Nat.le_add_left _ _), Nat.le_trans (show _ ≤ 12 by omega) (Nat.le_add_left _ _)⟩⟩
    | some p =>
      have hp4 : p < 4 := hz.1.2.1.2.2.2.2.2.2 i hi p e
      refine ⟨fun _ => ?_, fun w => absurd (show nI p < 0 by rw [show nI p = -1 from w]; decide) (nI_pos (by omega))⟩
      obtain ⟨A, H, W, r, a', d, ea, kn, kr, cu, hP⟩ := hz.2.1 p hp4
      have g := hP.gi
      obtain ⟨c1, c2, c3, c4⟩ := hz.1.1.2.2.2.2
      have ht := hz.1.1.1
      have r3 : mR S3 1203 t = some (z 3) := hz.1.1.2.2.1 3 (by decide) (by decide) (by decide) (by decide)
      have k0 : Keep (fun b => b = t) S3 (sI S3 1211 t 0) := Keep.sI (P := fun b => b = t) Keep.rf rfl
      obtain ⟨v1, v2, v3, v4, v5, v6, v7, v8⟩ := hz.1.2.2.1
      have ch := g.chn
      have hd : mR S3 512 (A 1) = ((Q.T p).od.map (xa A (X p))).head? := by
        cases e9 : (Q.T p).od.map (xa A (X p)) with
        | nil => rw [e9] at ch; exact ch
        | cons v R => rw [e9] at ch; exact ch.1
      refine ⟨trivial, ht, isO_sI ht, pa_i r3 ⟨c1.1, by show ¬ mK S3 (z 3) < 21; rw [c1.2]; decide, by show mK S3 (z 3) < 29; rw [c1.2]; decide, inRn (S := sI S3 1211 t 0) c2 hp4 (by decide), ?_⟩⟩
      rw [show stI (some p) = nI p from rfl, nI_clamp (by omega), show eR (sI S3 1211 t 0) (z 3) p = some (z (30 + p)) from c4 p hp4]
      refine ⟨isO_sI hP.1.1, pa_i hP.1.2.2.2.1 ⟨isO_sI (g 0).1, pa_i (g 1).1 ⟨isO_sI (g 1).2.1, _, z, A, H, W, i, p, F, z, [], (Q.T p).od, rfl, hz, hi, rfl, hp4, e, g, rfl, ⟨isO_sI ht, hz.1.1.2.1, hz.1.1.2.2.1 10 (by decide) (by decide) (by decide) (by decide), ⟨mI_sIs, v2, v3, v4, Nat.zero_le _, v6, v7, fun k hk => absurd hk (Nat.not_lt_zero k)⟩, hz.fo, Nat.zero_le _⟩, fun _ _ => rfl, fun _ _ => rfl, k0.mono (fun b _ w => Or.inl w), fun _ _ => rfl, fun k hk => by rw [mI_sI, if_neg (fun w => hk w.1)], Or.inl rfl, ?_, rfl, rfl, rfl⟩⟩⟩
      rw [show mR (sI S3 1211 t 0) 512 (A 1) = mR S3 512 (A 1) from rfl, hd]
  · intro av S hpre pc I hI k lo st S1 cs sl h
    obtain ⟨rfl, hp⟩ := hpre
    have hm := look_in hI
    rw [List.mem_singleton] at hm
    cases hm
    obtain ⟨z, A, H, W, i, p, F1, z1, U, V, rfl, hz, hi, hbi, hp4, hmp, hg, hod, hav, hz1, hf1, hk1, hr1, hi1, hn1, rfl, rfl, rfl, rfl⟩ := h
    refine ⟨300, ?_⟩
    show ((((V.map (xa A (X p))).head?) = none → (isO S1 12 t ∧ (([] : List MV) = [] ∧ mret (some .int) (sp_wvi2 t b F X kz Q) [.inr (.inr (some t)), .inl b] S (some (.inl (mI S1 1211 t))) S1 (1 + vgC (kz 10) (vwG (Q.G p) (Q.ms i) U).length) (6 + vgZ (kz 10) (vwG (Q.G p) (Q.ms i) U).length)))) ∧ (∀ w_1, ((V.map (xa A (X p))).head?) = some w_1 → (isO S1 12 t ∧ (pa (mR S1 1209 t) fun a_2 => ∃ v_3 : Int32, (isO S1 17 a_2 ∧ inR S1 a_2 b ∧ v_3 = eI S1 a_2 b.toNatClampNeg ∨ a_2 = (mQ S1).1 ∧ vp_in b 16 ∧ v_3 = mRem b.toNatClampNeg) ∧ (0 = 0 ∧ ((pa ((V.map (xa A (X p))).head?) fun a_4 => ((isO S1 5 a_4) ∧ 1 + vgC (kz 10) (vwG (Q.G p) (Q.ms i) U).length ≤ nc_i (∃ i q, i < 8 ∧ b = nI i ∧ Q.mp i = some q) (vgC (kz 10) (viN Q b.toNatClampNeg)) + 2 ∧ 6 + vgZ (kz 10) (vwG (Q.G p) (Q.ms i) U).length ≤ nc_i (∃ i q, i < 8 ∧ b = nI i ∧ Q.mp i = some q) (vgZ (kz 10) (viN Q b.toNatClampNeg)) + 12 ∧ ((((if v_3 ≤ mI S1 502 a_4 then 0 else if mI S1 514 a_4 = -1 then 1 else if mI S1 514 a_4 < v_3 then 0 else 1) = 0 → (pa ((V.map (xa A (X p))).head?) fun a_6 => isO S1 5 a_6 ∧ (∃ k1, k1 < V.length ∧ I_vi t b F X kz Q S k1 [(0, .inr (.inr (some t))), (1, .inl b), (3, .inr (.inr (mR S1 512 a_6)))] [] S1 (1 + vgC (kz 10) (vwG (Q.G p) (Q.ms i) U).length) (6 + vgZ (kz 10) (vwG (Q.G p) (Q.ms i) U).length)))) ∧ (¬ (if v_3 ≤ mI S1 502 a_4 then 0 else if mI S1 514 a_4 = -1 then 1 else if mI S1 514 a_4 < v_3 then 0 else 1) = 0 → (pa ((V.map (xa A (X p))).head?) fun a_7 => isO S1 5 a_7 ∧ (0 = 0 ∧ (∃ (F_8 : Nat → Nat × Nat) (z_9 : Nat → Nat) (vw_10 : List Int32) (n_11 : Nat), (avR S1 F_8 t z_9 vw_10 n_11) ∧ 1 + vgC (kz 10) (vwG (Q.G p) (Q.ms i) U).length + (if vw_10.length = n_11 then 1 else 0) ≤ nc_i (∃ i q, i < 8 ∧ b = nI i ∧ Q.mp i = some q) (vgC (kz 10) (viN Q b.toNatClampNeg)) + 2 ∧ 6 + vgZ (kz 10) (vwG (Q.G p) (Q.ms i) U).length + (if vw_10.length = n_11 then 2 * n_11 else 0) ≤ nc_i (∃ i q, i < 8 ∧ b = nI i ∧ Q.mp i = some q) (vgZ (kz 10) (viN Q b.toNatClampNeg)) + 12 ∧ (∀ (S_12 : MM), (avQ S1 S_12 F_8 t z_9 vw_10 n_11 (mI S1 505 a_7)) → (pa ((V.map (xa A (X p))).head?) fun a_13 => isO S_12 5 a_13 ∧ (∃ k1, k1 < V.length ∧ I_vi t b F X kz Q S k1 [(0, .inr (.inr (some t))), (1, .inl b), (3, .inr (.inr (mR S_12 512 a_13)))] [] S_12 (1 + vgC (kz 10) (vwG (Q.G p) (Q.ms i) U).length + (if vw_10.length = n_11 then 1 else 0)) (6 + vgZ (kz 10) (vwG (Q.G p) (Q.ms i) U).length + (if vw_10.length = n_11 then 2 * n_11 else 0)))))))))))))))))))
    have hM := hp.2
    have cb : b.toNatClampNeg = i := by rw [hbi]; exact nI_clamp (by omega)
    have eN : viN Q i = (vwG (Q.G p) (Q.ms i) (Q.T p).od).length := by unfold viN; rw [hmp]
    have hle : (vwG (Q.G p) (Q.ms i) U).length ≤ viN Q i := by rw [eN, hod]; exact vwG_le
    have fne := hz.1.ne
    have gn := hg.ok.hn
    rw [nc_it (P := ∃ i q, i < 8 ∧ b = nI i ∧ Q.mp i = some q) ⟨i, p, hi, hbi, hmp⟩, nc_it (P := ∃ i q, i < 8 ∧ b = nI i ∧ Q.mp i = some q) ⟨i, p, hi, hbi, hmp⟩, cb]
    cases V with
    | nil =>
      refine ⟨fun _ => ?_, fun w hw => by cases hw⟩
      rw [List.append_nil] at hod
      have ht1 := hav.1
      obtain ⟨f1, f2, f3, f8, f9, f10, f13, f14⟩ := fne
      have q : ∀ {b r}, F b = (20, r) → r ≠ 1 → r ≠ 6 → ¬ (b = t ∨ b = z 10) := fun e r1 r6 w => w.elim (F_ne e f1 r1) (F_ne e f10 r6)
      have k20 : Keep (fun b => (F b).1 = 20) S S1 := hk1.mono (fun b _ w => by
        rcases w with w | w <;> rw [w]
        · rw [f1]
        · rw [f10])
      have sf : Sf S1 F1 t z1 X (upF kz 10 (vgN (kz 10) (viN Q i))) (Q.sVw (vwG (Q.G p) (Q.ms i) (Q.T p).od)) := by
        obtain ⟨⟨a1, a2, a3, ⟨b1, b2, b3, b4⟩, ⟨c1, c2, c3, c4⟩⟩, ⟨s1, s2, s3, s4, ⟨d1, d2, d3, d4⟩, ⟨e1, e2, e3, e4⟩, s5⟩, -, ⟨⟨g1, g2, g3, g4⟩, ⟨h1, h2, h3, h4⟩, s6⟩⟩ := hz.1
        have r2 := row_keep (F' := F1) b1 b2 b3 hk1 hf1
        have r3 := row_keep (F' := F1) c1 c2 c3 hk1 hf1
        have r8 := row_keep (F' := F1) d1 d2 d3 hk1 hf1
        have r9 := row_keep (F' := F1) e1 e2 e3 hk1 hf1
        have r13 := row_keep (F' := F1) g1 g2 g3 hk1 hf1
        have r14 := row_keep (F' := F1) h1 h2 h3 hk1 hf1
        refine ⟨⟨ht1, hav.2.1, fun k k1 k2 k3 k4 => ?_, ?_, ?_⟩, ⟨(hi1 1206 (by decide)).trans s1, s2, (hi1 1207 (by decide)).trans s3, s4, ?_, ?_, s5⟩, ?_, ?_, ?_, s6⟩
        · by_cases e : k = 10
          · subst e; exact hav.2.2.1
          · rw [hz1 k e, hr1 _ (by omega)]; exact a3 k k1 k2 k3 k4
        · rw [hz1 2 (by decide)]
          exact ⟨r2.1, r2.2.1, r2.2.2, fun k hk => by rw [(hk1.2.1 _ b1.1 (q f2 (by decide) (by decide))).2.2.2.2.2, hz1 (20 + k) (by omega)]; exact b4 k hk⟩
        · rw [hz1 3 (by decide)]
          exact ⟨r3.1, r3.2.1, r3.2.2, fun k hk => by rw [(hk1.2.1 _ c1.1 (q f3 (by decide) (by decide))).2.2.2.2.2, hz1 (30 + k) (by omega)]; exact c4 k hk⟩
        · rw [hz1 8 (by decide)]
          exact ⟨r8.1, r8.2.1, r8.2.2, fun k hk => by rw [(hk1.2.1 _ d1.1 (q f8 (by decide) (by decide))).2.2.2.1]; exact d4 k hk⟩
        · rw [hz1 9 (by decide)]
          exact ⟨r9.1, r9.2.1, r9.2.2, fun k hk hn => by rw [(hk1.2.1 _ e1.1 (q f9 (by decide) (by decide))).2.2.2.1]; exact e4 k hk hn⟩
        · show SfV S1 F1 t z1 (vwG (Q.G p) (Q.ms i) (Q.T p).od) (upF kz 10 (vgN (kz 10) (viN Q i)) 10)
          rw [upF_s, eN, hod]
          exact hav.2.2.2.1
        · rw [hz1 13 (by decide)]
          exact ⟨r13.1, r13.2.1, r13.2.2, fun k hk => by rw [(hk1.2.1 _ g1.1 (q f13 (by decide) (by decide))).2.2.2.1]; exact g4 k hk⟩
        · rw [hz1 14 (by decide)]
          exact ⟨r14.1, r14.2.1, r14.2.2, fun k hk p9 hp9 => by rw [(hk1.2.1 _ h1.1 (q f14 (by decide) (by decide))).2.2.2.2.2]; exact h4 k hk p9 hp9⟩
      have w := hz.selfz hz1 sf (fun l hl => upF_o hl) rfl rfl rfl rfl rfl rfl rfl k20 hf1 hav.2.2.2.2.1
      refine ⟨ht1, rfl, trivial, ⟨_, rfl, i, p, hi, hbi, hmp, ?_, F1, ⟨z1, w⟩, hf1, k20.mono (fun b _ e => by show cO (F b).1; rw [e]; exact ⟨by decide, by decide⟩)⟩, ?_, ?_⟩
      · rw [hav.2.2.2.1.1, hod]
      · show _ ≤ nc_i (∃ i q, i < 8 ∧ b = nI i ∧ Q.mp i = some q) (vgC (kz 10) (viN Q b.toNatClampNeg)) + 2
        have := vgC_mono (n := kz 10) hle
        rw [nc_it ⟨i, p, hi, hbi, hmp⟩, cb]; omega
      · show _ ≤ nc_i (∃ i q, i < 8 ∧ b = nI i ∧ Q.mp i = some q) (vgZ (kz 10) (viN Q b.toNatClampNeg)) + 12
        have := vgZ_mono (n := kz 10) hle
        rw [nc_it ⟨i, p, hi, hbi, hmp⟩, cb]; omega
    | cons x V =>
      refine ⟨(fun w => by cases w), fun w hw => ?_⟩
      cases hw
      have hx : x ∈ (Q.T p).od := by rw [hod]; simp
      obtain ⟨k, rfl, hkn, hkc⟩ := hg.nd hx
      have ho2 : (Q.T p).od = (U ++ [k + 1]) ++ V := by rw [hod]; simp
      have ch := hg.chn
      rw [hod, List.map_append, List.map_cons] at ch
      obtain ⟨o5, n5⟩ := chn_mid ch
      have fk : F ((X p).ad k) = (p + 1, 100 + k) := (hg 11 k hkn).1
      have nk : ¬ ((X p).ad k = t ∨ (X p).ad k = z 10) := fun w => by
        rcases w with w | w <;> rw [w] at fk
        · rw [fne.1] at fk; injection fk with q1; omega
        · rw [fne.2.2.2.2.2.1] at fk; injection fk with q1; omega
      have kk := hk1.2.1 ((X p).ad k) o5.1 nk
      have ev := hg.ev.2.1 k hkn
      have o51 : isO S1 5 ((X p).ad k) := hk1.isO o5
      have m2 : mI S1 502 ((X p).ad k) = nI k := (kk.1 _).trans ev.2.2.2.1
      have m14 : mI S1 514 ((X p).ad k) = stI (stk (Q.G p) k) := (kk.1 _).trans (hg 15 k hkn hkc)
      have m5 : mI S1 505 ((X p).ad k) = chI ((Q.G p).ev k).ch := (kk.1 _).trans ev.2.2.2.2.2.2.2.2.2.2.2.2.1
      have hms : Q.ms i ≤ (Q.G p).n := hM i hi p hmp
      obtain ⟨e1, e2, e3, e4⟩ := hz.1.2.1.2.2.2.2.2.1
      have r9 := row_keep (F' := F1) e1 e2 e3 hk1 hf1
      have n9 : ¬ (z 9 = t ∨ z 9 = z 10) := fun w => w.elim (F_ne fne.2.2.2.2.1 fne.1 (by decide)) (F_ne fne.2.2.2.2.1 fne.2.2.2.2.2.1 (by decide))
      have v9 : eI S1 (z 9) i = nI (Q.ms i) := by rw [(hk1.2.1 _ e1.1 n9).2.2.2.1]; exact e4 i hi (by rw [hmp]; intro w; cases w)
      have sv : (if nI (Q.ms i) ≤ mI S1 502 ((X p).ad k) then (0 : Int32) else if mI S1 514 ((X p).ad k) = -1 then 1 else if mI S1 514 ((X p).ad k) < nI (Q.ms i) then 0 else 1) = nI (stM (Q.G p) (Q.ms i) k) := by
        rw [stN_v, std_stM m2 m14 (by omega) (by omega) gn]
      have cc1 := vgC_mono (n := kz 10) hle
      have cc2 := vgZ_mono (n := kz 10) hle
      refine ⟨hav.1, pa_i ((hr1 1209 (by decide)).trans (hz.1.1.2.2.1 9 (by decide) (by decide) (by decide) (by decide))) ⟨_, Or.inl ⟨r9.1, by rw [hbi]; exact inRn r9.2.1 hi (by decide), rfl⟩, rfl, pa_i rfl ⟨o51, by omega, by omega, ?_⟩⟩⟩
      rw [v9]
      show ((if nI (Q.ms i) ≤ mI S1 502 ((X p).ad k) then (0 : Int32) else if mI S1 514 ((X p).ad k) = -1 then 1 else if mI S1 514 ((X p).ad k) < nI (Q.ms i) then 0 else 1) = 0 → _) ∧ (¬ (if nI (Q.ms i) ≤ mI S1 502 ((X p).ad k) then (0 : Int32) else if mI S1 514 ((X p).ad k) = -1 then 1 else if mI S1 514 ((X p).ad k) < nI (Q.ms i) then 0 else 1) = 0 → _)
      rw [sv]
      have s01 : stM (Q.G p) (Q.ms i) k = 0 ∨ stM (Q.G p) (Q.ms i) k = 1 := by unfold stM; split <;> simp
      refine ⟨fun h0 => ?_, fun h1 => ?_⟩
      · have es : stM (Q.G p) (Q.ms i) k ≠ 1 := fun w => by rw [w] at h0; exact absurd h0 (by decide)
        have ev2 : vwG (Q.G p) (Q.ms i) (U ++ [k + 1]) = vwG (Q.G p) (Q.ms i) U := by rw [vwG_app, Nat.add_sub_cancel, if_neg es]
        refine pa_i rfl ⟨o51, V.length, by simp, z, A, H, W, i, p, F1, z1, U ++ [k + 1], V, rfl, hz, hi, hbi, hp4, hmp, hg, ho2, by rw [ev2]; exact hav, hz1, hf1, hk1, hr1, hi1, hn1, ?_, rfl, by rw [ev2], by rw [ev2]⟩
        rw [show mR S1 512 (xa A (X p) (k + 1)) = mR S 512 ((X p).ad k) from kk.2.1 512]
        rw [show mR S 512 ((X p).ad k) = (V.map (xa A (X p))).head? from n5]
      · have es : stM (Q.G p) (Q.ms i) k = 1 := s01.resolve_left (fun w => h1 (by rw [w]; rfl))
        have ev2 : vwG (Q.G p) (Q.ms i) (U ++ [k + 1]) = vwG (Q.G p) (Q.ms i) U ++ [chI ((Q.G p).ev k).ch] := by rw [vwG_app, Nat.add_sub_cancel, if_pos es]
        have el : (vwG (Q.G p) (Q.ms i) (U ++ [k + 1])).length = (vwG (Q.G p) (Q.ms i) U).length + 1 := by rw [ev2, List.length_append]; rfl
        have hle2 : (vwG (Q.G p) (Q.ms i) U).length + 1 ≤ viN Q i := by rw [← el, eN, ho2]; exact vwG_le
        have d1 := vgC_mono (n := kz 10) hle2
        have d2 := vgZ_mono (n := kz 10) hle2
        have d1 : vgC (kz 10) (vwG (Q.G p) (Q.ms i) U).length + (if (vwG (Q.G p) (Q.ms i) U).length = vgN (kz 10) (vwG (Q.G p) (Q.ms i) U).length then 1 else 0) ≤ vgC (kz 10) (viN Q i) := d1
        have d2 : vgZ (kz 10) (vwG (Q.G p) (Q.ms i) U).length + (if (vwG (Q.G p) (Q.ms i) U).length = vgN (kz 10) (vwG (Q.G p) (Q.ms i) U).length then 2 * vgN (kz 10) (vwG (Q.G p) (Q.ms i) U).length else 0) ≤ vgZ (kz 10) (viN Q i) := d2
        refine pa_i rfl ⟨o51, rfl, F1, z1, _, _, hav, by omega, by omega, fun S3 h3 => ?_⟩
        obtain ⟨F3, z3, g1, g2, g3, g4, g5, g6, g7, g8, g9⟩ := h3
        have k3 : Keep (fun b => b = t ∨ b = z 10) S S3 := hk1.trN g6 (fun b hb w => w.elim Or.inl (fun w => by
          rcases hn1 with e | e
          · exact Or.inr (w.trans e)
          · exact absurd (w ▸ hb) e))
        have l10 : ((vwG (Q.G p) (Q.ms i) U) ++ [mI S1 505 (xa A (X p) (k + 1))]).length ≤ 10000 := by
          have a1 : viN Q i ≤ 8192 := by
            rw [eN]; unfold vwG
            rw [List.length_map]
            exact Nat.le_trans (List.length_filter_le _ _) (Nat.le_trans hg.odl gn)
          rw [List.length_append, List.length_singleton]; omega
        have ev3 : vwG (Q.G p) (Q.ms i) (U ++ [k + 1]) = vwG (Q.G p) (Q.ms i) U ++ [mI S1 505 (xa A (X p) (k + 1))] := by rw [ev2]; exact congrArg (fun c => _ ++ [c]) m5.symm
        refine pa_i rfl ⟨k3.isO o5, V.length, by simp, z, A, H, W, i, p, F3, z3, U ++ [k + 1], V, rfl, hz, hi, hbi, hp4, hmp, hg, ho2, ⟨k3.isO hz.1.1.1, (g4 t hav.1.1).trans hav.2.1, g2, ?_, g5, by rw [ev3]; exact l10⟩, fun k9 hk9 => (g3 k9 hk9).trans (hz1 k9 hk9), fun b9 hb9 => (g4 b9 (hk1.1 b9 hb9).1).trans (hf1 b9 hb9), k3, fun k9 hk9 => (g7 k9 hk9).trans (hr1 k9 hk9), fun k9 hk9 => (g8 k9 hk9).trans (hi1 k9 hk9), ?_, ?_, rfl, ?_, ?_⟩
        · rw [el, ev3]; exact g1
        · rcases g9 with e | e
          · rw [e]; exact hn1
          · exact Or.inr (fun w => e (hk1.1 _ w).1)
        · rw [show mR S3 512 (xa A (X p) (k + 1)) = mR S 512 ((X p).ad k) from (k3.2.1 ((X p).ad k) o5.1 nk).2.1 512]
          rw [show mR S 512 ((X p).ad k) = (V.map (xa A (X p))).head? from n5]
        · rw [el, Nat.add_assoc]; rfl
        · rw [el, Nat.add_assoc]; rfl
theorem u_wvi2 (l : Launch) (hlt : l.stackTraces = false) : UsX l yX11_view (Cond.code yX11_view cX11_view 4 (some .int)) (some .int) 8 130 12 T_wvi2 := by
  intro Rc Rs av S cs sl K Kx h
  unfold T_wvi2 at h
  split at h
  · rename_i t_o b
    obtain ⟨t, rfl, h_1⟩ := pa_of h
    obtain ⟨F, X, kz, Q, hp, hc, hs, hk, hx0, hx1⟩ := h_1
    refine ⟨(sp_wvi2 t b F X kz Q), c_wvi2 l hlt t b F X kz Q, fun _ _ h9 => ⟨_, _, h9.1, h9.2.1.choose_spec.1.1.1⟩, ⟨rfl, hp⟩, hc, hs, fun v9 S' h8 => by
      obtain ⟨v8, h7, h8⟩ := h8
      cases h7
      exact hk _ _ h8, fun _ _ q => by
      rcases q with ⟨rfl, q⟩ | ⟨rfl, q⟩
      · obtain ⟨q, rfl⟩ := q
        exact hx0 q
      · obtain ⟨q, rfl⟩ := q
        exact hx1 q⟩
  · exact h.elim
def T_wdf2 : TR := fun Rc Rs av S cs sl K Kx => match av with
  | [.inr (.inr t_o), .inl b, .inl c] => pa t_o fun t => (∃ (F : Nat → Nat × Nat) (X : Nat → GX) (kz : Nat → Nat) (Q : Ab), (WT S F t X kz Q ∧ AbM Q) ∧ cs + (nc_i (∃ i j n, i < 8 ∧ b = nI i ∧ j < 8 ∧ c = nI j ∧ Q.mp i = some n ∧ Q.mp j = some n) (hrC (dfP Q b.toNatClampNeg c.toNatClampNeg) (kz 12, [], 0, 0, 0, 0)) + 3) ≤ Rc ∧ sl + (nc_i (∃ i j n, i < 8 ∧ b = nI i ∧ j < 8 ∧ c = nI j ∧ Q.mp i = some n ∧ Q.mp j = some n) (hrZ (dfP Q b.toNatClampNeg c.toNatClampNeg) (kz 12, [], 0, 0, 0, 0)) + 18) ≤ Rs ∧ ((∀ (v : Int32) (S' : MM), (∃ i j p, i < 8 ∧ b = nI i ∧ j < 8 ∧ c = nI j ∧ Q.mp i = some p ∧ Q.mp j = some p ∧ v = nI (dfX kz Q i j).2.1.length ∧ wtQ S S' F t X (upF kz 12 (dfX kz Q i j).1) (Q.sHu (dfX kz Q i j).2.1)) → K (some (.inl v)) S' (cs + (nc_i (∃ i j n, i < 8 ∧ b = nI i ∧ j < 8 ∧ c = nI j ∧ Q.mp i = some n ∧ Q.mp j = some n) (hrC (dfP Q b.toNatClampNeg c.toNatClampNeg) (kz 12, [], 0, 0, 0, 0)) + 3)) (sl + (nc_i (∃ i j n, i < 8 ∧ b = nI i ∧ j < 8 ∧ c = nI j ∧ Q.mp i = some n ∧ Q.mp j = some n) (hrZ (dfP Q b.toNatClampNeg c.toNatClampNeg) (kz 12, [], 0, 0, 0, 0)) + 18))) ∧ ((np 8 b ∨ np 8 c) → Kx 1 S (cs + (nc_i (∃ i j n, i < 8 ∧ b = nI i ∧ j < 8 ∧ c = nI j ∧ Q.mp i = some n ∧ Q.mp j = some n) (hrC (dfP Q b.toNatClampNeg c.toNatClampNeg) (kz 12, [], 0, 0, 0, 0)) + 3)) (sl + (nc_i (∃ i j n, i < 8 ∧ b = nI i ∧ j < 8 ∧ c = nI j ∧ Q.mp i = some n ∧ Q.mp j = some n) (hrZ (dfP Q b.toNatClampNeg c.toNatClampNeg) (kz 12, [], 0, 0, 0, 0)) + 18))) ∧ ((∃ i j, i < 8 ∧ b = nI i ∧ j < 8 ∧ c = nI j ∧ (Q.mp i = none ∨ Q.mp j = none)) → Kx 2 S (cs + (nc_i (∃ i j n, i < 8 ∧ b = nI i ∧ j < 8 ∧ c = nI j ∧ Q.mp i = some n ∧ Q.mp j = some n) (hrC (dfP Q b.toNatClampNeg c.toNatClampNeg) (kz 12, [], 0, 0, 0, 0)) + 3)) (sl + (nc_i (∃ i j n, i < 8 ∧ b = nI i ∧ j < 8 ∧ c = nI j ∧ Q.mp i = some n ∧ Q.mp j = some n) (hrZ (dfP Q b.toNatClampNeg c.toNatClampNeg) (kz 12, [], 0, 0, 0, 0)) + 18))) ∧ ((∃ i j p q, i < 8 ∧ b = nI i ∧ j < 8 ∧ c = nI j ∧ Q.mp i = some p ∧ Q.mp j = some q ∧ p ≠ q) → Kx 3 S (cs + (nc_i (∃ i j n, i < 8 ∧ b = nI i ∧ j < 8 ∧ c = nI j ∧ Q.mp i = some n ∧ Q.mp j = some n) (hrC (dfP Q b.toNatClampNeg c.toNatClampNeg) (kz 12, [], 0, 0, 0, 0)) + 3)) (sl + (nc_i (∃ i j n, i < 8 ∧ b = nI i ∧ j < 8 ∧ c = nI j ∧ Q.mp i = some n ∧ Q.mp j = some n) (hrZ (dfP Q b.toNatClampNeg c.toNatClampNeg) (kz 12, [], 0, 0, 0, 0)) + 18)))))
  | _ => False
noncomputable def sp_wdf2 (t : Nat) (b : Int32) (c : Int32) (F : Nat → Nat × Nat) (X : Nat → GX) (kz : Nat → Nat) (Q : Ab) : Sp := (fun av S => av = [.inr (.inr (some t)), .inl b, .inl c] ∧ (WT S F t X kz Q ∧ AbM Q), fun _ S => nc_i (∃ i j n, i < 8 ∧ b = nI i ∧ j < 8 ∧ c = nI j ∧ Q.mp i = some n ∧ Q.mp j = some n) (hrC (dfP Q b.toNatClampNeg c.toNatClampNeg) (kz 12, [], 0, 0, 0, 0)) + 3, fun _ S => nc_i (∃ i j n, i < 8 ∧ b = nI i ∧ j < 8 ∧ c = nI j ∧ Q.mp i = some n ∧ Q.mp j = some n) (hrZ (dfP Q b.toNatClampNeg c.toNatClampNeg) (kz 12, [], 0, 0, 0, 0)) + 18, fun _ S rv S' => ∃ v, rv = (some (.inl v)) ∧ (∃ i j p, i < 8 ∧ b = nI i ∧ j < 8 ∧ c = nI j ∧ Q.mp i = some p ∧ Q.mp j = some p ∧ v = nI (dfX kz Q i j).2.1.length ∧ wtQ S S' F t X (upF kz 12 (dfX kz Q i j).1) (Q.sHu (dfX kz Q i j).2.1)), fun _ S E S' => (E = 1 ∧ (np 8 b ∨ np 8 c) ∧ S' = S) ∨ (E = 2 ∧ (∃ i j, i < 8 ∧ b = nI i ∧ j < 8 ∧ c = nI j ∧ (Q.mp i = none ∨ Q.mp j = none)) ∧ S' = S) ∨ (E = 3 ∧ (∃ i j p q, i < 8 ∧ b = nI i ∧ j < 8 ∧ c = nI j ∧ Q.mp i = some p ∧ Q.mp j = some q ∧ p ≠ q) ∧ S' = S))
set_option maxRecDepth 100000 in
set_option maxHeartbeats 2000000 in
theorem c_wdf2 (l : Launch) (hlt : l.stackTraces = false) : ∀ (t : Nat) (b : Int32) (c : Int32) (F : Nat → Nat × Nat) (X : Nat → GX) (kz : Nat → Nat) (Q : Ab), CtX l yX11_differ (Cond.code yX11_differ cX11_differ 5 (some .int)) (some .int) 8 130 (sp_wdf2 t b c F X kz Q) := by
  intro t b c F X kz Q
  refine CtX.of hlt (fX11, nX11, aX11, iX11, lX11, [(208, 0, 2, 1, T_wbp), (224, 0, 4, 0, T_hcm)], qX11, gX11, thX11) false tX11_differ (fun _ _ _ => none) (by decide) (by decide) kX11_differ ⟨_, _, rfl⟩ fX11_ok nX11_ok aX11_ok iX11_ok lX11_ok (fun p e R s m args below meth c Q D cy z r A C hR1 hR2 => List.forall_mem_cons.mpr ⟨cOK_use (fun _ _ _ _ _ _ _ _ h => let ⟨sp, h1, h2, h3⟩ := u_wbp l hlt _ _ _ _ _ _ _ _ h; ⟨sp, cOKx_V C h1 vX11_differ_208 ⟨by decide, by decide, by decide +kernel⟩ ⟨by rw [hR1]; decide, by rw [hR2]; decide⟩ (k := 12) (T := TX11) (N := 15) rfl (by decide) h2, h3⟩), List.forall_mem_cons.mpr ⟨cOK_use (fun _ _ _ _ _ _ _ _ h => let ⟨sp, h1, h2, h3⟩ := u_hcm l _ _ _ _ _ _ _ _ h; ⟨sp, cOK_V C h1 vX11_differ_224 ⟨by decide, by decide, by decide +kernel⟩ ⟨by rw [hR1]; decide, by rw [hR2]; decide⟩ (k := 7) (T := TX6) (N := 6) rfl (by decide) h2, h3⟩), fun _ h => absurd h List.not_mem_nil⟩⟩) qX11_ok gX11_ok (fun q hq => ⟨thX11_ok q hq, by decide, by decide⟩) ?_ ?_
  · rintro _ S ⟨rfl, hp⟩
    refine ⟨Nat.le_of_ble_eq_true rfl, 300, ?_⟩
    show (0 = 0 ∧ (∃ (F_1 : Nat → Nat × Nat) (z_2 : Nat → Nat) (ft_3 fo_4 : Nat) (mp_5 : Nat → Option Nat) (ms_6 : Nat → Nat), (SfA S F_1 t z_2 ∧ SfB S F_1 t z_2 ft_3 fo_4 mp_5 ms_6) ∧ 0 + 1 ≤ nc_i (∃ i j n, i < 8 ∧ b = nI i ∧ j < 8 ∧ c = nI j ∧ Q.mp i = some n ∧ Q.mp j = some n) (hrC (dfP Q b.toNatClampNeg c.toNatClampNeg) (kz 12, [], 0, 0, 0, 0)) + 3 ∧ 0 + 6 ≤ nc_i (∃ i j n, i < 8 ∧ b = nI i ∧ j < 8 ∧ c = nI j ∧ Q.mp i = some n ∧ Q.mp j = some n) (hrZ (dfP Q b.toNatClampNeg c.toNatClampNeg) (kz 12, [], 0, 0, 0, 0)) + 18 ∧ ((∀ (x_8 : Int32) (S_7 : MM), (S_7 = S ∧ ∃ i, i < 8 ∧ b = nI i ∧ x_8 = stI (mp_5 i)) → (0 = 0 ∧ (∃ (F_9 : Nat → Nat × Nat) (z_10 : Nat → Nat) (ft_11 fo_12 : Nat) (mp_13 : Nat → Option Nat) (ms_14 : Nat → Nat), (SfA S_7 F_9 t z_10 ∧ SfB S_7 F_9 t z_10 ft_11 fo_12 mp_13 ms_14) ∧ 0 + 1 + 1 ≤ nc_i (∃ i j n, i < 8 ∧ b = nI i ∧ j < 8 ∧ c = nI j ∧ Q.mp i = some n ∧ Q.mp j = some n) (hrC (dfP Q b.toNatClampNeg c.toNatClampNeg) (kz 12, [], 0, 0, 0, 0)) + 3 ∧ 0 + 6 + 6 ≤ nc_i (∃ i j n, i < 8 ∧ b = nI i ∧ j < 8 ∧ c = nI j ∧ Q.mp i = some n ∧ Q.mp j = some n) (hrZ (dfP Q b.toNatClampNeg c.toNatClampNeg) (kz 12, [], 0, 0, 0, 0)) + 18 ∧ ((∀ (x_16 : Int32) (S_15 : MM), (S_15 = S_7 ∧ ∃ i, i < 8 ∧ c = nI i ∧ x_16 = stI (mp_13 i)) → ((x_8 = (-1 : Int32) → (mthr (sp_wdf2 t b c F X kz Q) [.inr (.inr (some t)), .inl b, .inl c] S 2 S_15 (0 + 1 + 1 + 1) (0 + 6 + 6 + 6))) ∧ (¬ x_8 = (-1 : Int32) → ((¬ x_16 = (-1 : Int32) → ((x_8 = x_16 → (isO S_15 12 t ∧ (isO S_15 12 t ∧ (pa (mR S_15 1203 t) fun a_17 => a_17 ∈ mL S_15 ∧ ¬ mK S_15 a_17 < 21 ∧ mK S_15 a_17 < 29 ∧ inR S_15 a_17 x_8 ∧ (pa (eR S_15 a_17 x_8.toNatClampNeg) fun a_18 => isO S_15 11 a_18 ∧ (isO S_15 12 t ∧ (pa (mR S_15 1209 t) fun a_19 => ∃ v_20 : Int32, (isO S_15 17 a_19 ∧ inR S_15 a_19 b ∧ v_20 = eI S_15 a_19 b.toNatClampNeg ∨ a_19 = (mQ S_15).1 ∧ vp_in b 16 ∧ v_20 = mRem b.toNatClampNeg) ∧ (isO S_15 12 t ∧ (pa (mR S_15 1209 t) fun a_21 => ∃ v_22 : Int32, (isO S_15 17 a_21 ∧ inR S_15 a_21 c ∧ v_22 = eI S_15 a_21 c.toNatClampNeg ∨ a_21 = (mQ S_15).1 ∧ vp_in c 16 ∧ v_22 = mRem c.toNatClampNeg) ∧ (0 = 0 ∧ ((pa (mR S_15 1212 t) fun a_23 => ((pa (mR S_15 1101 a_18) fun a_24 => (∃ (F_25 : Nat → Nat × Nat) (j_26 r_27 N_28 : Nat) (Q0_29 : List (Nat × Nat × Nat × Nat)) (f0_30 s0_31 rt_32 : Nat) (R_33 : List Nat), (HuR S_15 F_25 j_26 a_23 r_27 N_28 Q0_29 f0_30 s0_31 0 0 ∧ N_28 ≤ 32768 ∧ GCh S_15 a_24 rt_32 R_33 ∧ (F_25 a_24).1 ≠ j_26 ∧ (F_25 rt_32).1 ≠ j_26 ∧ (∀ w ∈ R_33, (F_25 w).1 ≠ j_26) ∧ R_33.length ≤ 8192) ∧ 0 + 1 + 1 + (hrC (hmP S_15 v_20 v_22 R_33) (N_28, [], 0, 0, 0, 0)) ≤ nc_i (∃ i j n, i < 8 ∧ b = nI i ∧ j < 8 ∧ c = nI j ∧ Q.mp i = some n ∧ Q.mp j = some n) (hrC (dfP Q b.toNatClampNeg c.toNatClampNeg) (kz 12, [], 0, 0, 0, 0)) + 3 ∧ 0 + 6 + 6 + (hrZ (hmP S_15 v_20 v_22 R_33) (N_28, [], 0, 0, 0, 0)) ≤ nc_i (∃ i j n, i < 8 ∧ b = nI i ∧ j < 8 ∧ c = nI j ∧ Q.mp i = some n ∧ Q.mp j = some n) (hrZ (dfP Q b.toNatClampNeg c.toNatClampNeg) (kz 12, [], 0, 0, 0, 0)) + 18 ∧ (∀ (S_34 : MM), (hmQ S_15 S_34 F_25 j_26 a_23 (hrun (hmP S_15 v_20 v_22 R_33) (N_28, [], 0, 0, 0, 0))) → (isO S_34 12 t ∧ (pa (mR S_34 1212 t) fun a_35 => isO S_34 7 a_35 ∧ (([] : List MV) = [] ∧ mret (some .int) (sp_wdf2 t b c F X kz Q) [.inr (.inr (some t)), .inl b, .inl c] S (some (.inl (mI S_34 701 a_35))) S_34 (0 + 1 + 1 + (hrC (hmP S_15 v_20 v_22 R_33) (N_28, [], 0, 0, 0, 0))) (0 + 6 + 6 + (hrZ (hmP S_15 v_20 v_22 R_33) (N_28, [], 0, 0, 0, 0)))))))))))))))))))))) ∧ (¬ x_8 = x_16 → (mthr (sp_wdf2 t b c F X kz Q) [.inr (.inr (some t)), .inl b, .inl c] S 3 S_15 (0 + 1 + 1 + 1) (0 + 6 + 6 + 6))))) ∧ (x_16 = (-1 : Int32) → (mthr (sp_wdf2 t b c F X kz Q) [.inr (.inr (some t)), .inl b, .inl c] S 2 S_15 (0 + 1 + 1 + 1) (0 + 6 + 6 + 6))))))) ∧ ((np 8 c) → mthr (sp_wdf2 t b c F X kz Q) [.inr (.inr (some t)), .inl b, .inl c] S 1 S_7 (0 + 1 + 1) (0 + 6 + 6)))))) ∧ ((np 8 b) → mthr (sp_wdf2 t b c F X kz Q) [.inr (.inr (some t)), .inl b, .inl c] S 1 S (0 + 1) (0 + 6)))))
    obtain ⟨⟨z, hz⟩, hM⟩ := hp
    have cst : ∀ a d : Nat, a ≤ 3 → d ≤ 18 → a ≤ (sp_wdf2 t b c F X kz Q).2.1 [.inr (.inr (some t)), .inl b, .inl c] S ∧ d ≤ (sp_wdf2 t b c F X kz Q).2.2.1 [.inr (.inr (some t)), .inl b, .inl c] S := fun a d h1 h2 => ⟨Nat.le_trans h1 (Nat.le_add_left _ _), Nat.le_trans h2 (Nat.le_add_left _ _)⟩
    refine ⟨rfl, F, z, _, _, _, _, ⟨hz.1.1, hz.1.2.1⟩, by omega, by omega, fun v S3 h => ?_, fun h => ⟨Or.inl ⟨rfl, Or.inl h, rfl⟩, cst _ _ (by decide) (by decide)⟩⟩
    obtain ⟨rfl, i, hi, hbi, rfl⟩ := h
    refine ⟨rfl, F, z, _, _, _, _, ⟨hz.1.1, hz.1.2.1⟩, by omega, by omega, fun v S3 h => ?_, fun h => ⟨Or.inl ⟨rfl, Or.inr h, rfl⟩, cst _ _ (by decide) (by decide)⟩⟩
    obtain ⟨rfl, j, hj, hcj, rfl⟩ := h
    have m1 : ∀ o : Option Nat, (∀ p, o = some p → p < 4) → stI o = -1 → o = none := fun o ho e => by
      cases o with
      | none => rfl
      | some p => exact absurd (show nI p < 0 by rw [show nI p = -1 from e]; decide) (nI_pos (by have := ho p rfl; omega))
    have hb4 := hz.1.2.1.2.2.2.2.2.2
    refine ⟨fun h => ⟨Or.inr (Or.inl ⟨rfl, ⟨i, j, hi, hbi, hj, hcj, Or.inl (m1 _ (hb4 i hi) h)⟩, rfl⟩), cst _ _ (by decide) (by decide)⟩, fun h1 => ⟨fun h2 => ?_, fun h => ⟨Or.inr (Or.inl ⟨rfl, ⟨i, j, hi, hbi, hj, hcj, Or.inr (m1 _ (hb4 j hj) h)⟩, rfl⟩), cst _ _ (by decide) (by decide)⟩⟩⟩
    cases e1 : Q.mp i with
    | none => rw [e1] at h1; exact absurd rfl h1
    | some p =>
      cases e2 : Q.mp j with
      | none => rw [e2] at h2; exact absurd rfl h2
      | some q =>
        have hp4 := hb4 i hi p e1
        have hq4 := hb4 j hj q e2
        refine ⟨fun epq => ?_, fun npq => ⟨Or.inr (Or.inr ⟨rfl, ⟨i, j, p, q, hi, hbi, hj, hcj, e1, e2, fun w => npq (by rw [w])⟩, rfl⟩), cst _ _ (by decide) (by decide)⟩⟩
        have epq : p = q := (nI_eq (by omega) (by omega)).1 epq
        subst epq
        obtain ⟨A, H, W, r, a', d, ea, kn, kr, cu, hP⟩ := hz.2.1 p hp4
        have g := hP.gi
        obtain ⟨c1, c2, c3, c4⟩ := hz.1.1.2.2.2.2
        have ht := hz.1.1.1
        have r3 : mR S3 1203 t = some (z 3) := hz.1.1.2.2.1 3 (by decide) (by decide) (by decide) (by decide)
        have r9 : mR S3 1209 t = some (z 9) := hz.1.1.2.2.1 9 (by decide) (by decide) (by decide) (by decide)
        have r12 : mR S3 1212 t = some (z 12) := hz.1.1.2.2.1 12 (by decide) (by decide) (by decide) (by decide)
        obtain ⟨d1, d2, d3, d4⟩ := hz.1.2.1.2.2.2.2.2.1
        obtain ⟨hr, f0, s0, hu, h32⟩ := hz.2.2.2.2.2.2.2.1
        have cb : b.toNatClampNeg = i := by rw [hbi]; exact nI_clamp (by omega)
        have cc : c.toNatClampNeg = j := by rw [hcj]; exact nI_clamp (by omega)
        have v1 : eI S3 (z 9) i = nI (Q.ms i) := d4 i hi (by rw [e1]; intro w; cases w)
        have v2 : eI S3 (z 9) j = nI (Q.ms j) := d4 j hj (by rw [e2]; intro w; cases w)
        have gn := g.ok.hn
        have eP : hmP S3 (nI (Q.ms i)) (nI (Q.ms j)) ((Q.T p).od.map (xa A (X p))) = dfP Q i j := by
          unfold dfP hmP hpG
          rw [e1, List.map_map]
          refine List.map_congr_left (fun x hx => ?_)
          obtain ⟨k, rfl, hkn, hkc⟩ := g.nd hx
          have ev := g.ev.2.1 k hkn
          show (stN S3 (nI (Q.ms i)) ((X p).ad k), stN S3 (nI (Q.ms j)) ((X p).ad k)) = (stM (Q.G p) (Q.ms i) k, stM (Q.G p) (Q.ms j) k)
          have a1 : Q.ms i ≤ 8192 := Nat.le_trans (hM i hi p e1) gn
          have a2 : Q.ms j ≤ 8192 := Nat.le_trans (hM j hj p e2) gn
          rw [std_stM ev.2.2.2.1 (g 15 k hkn hkc) (by omega) a1 gn, std_stM ev.2.2.2.1 (g 15 k hkn hkc) (by omega) a2 gn]
        refine ⟨ht, ht, pa_i r3 ⟨c1.1, by rw [c1.2]; decide, by rw [c1.2]; decide, inRn c2 hp4 (by decide), ?_⟩⟩
        rw [show stI (some p) = nI p from rfl, nI_clamp (by omega), c4 p hp4]
        have hRl : ((Q.T p).od.map (xa A (X p))).length ≤ 8192 := by
          rw [List.length_map]; exact Nat.le_trans g.odl gn
        have nf : ∀ {x y}, F x = (p + 1, y) → (F x).1 ≠ 25 := fun {x y} e w => by rw [e] at w; have w : p + 1 = 25 := w; omega
        refine ⟨hP.1.1, ht, pa_i r9 ⟨_, Or.inl ⟨d1, by rw [hbi]; exact inRn d2 hi (by decide), rfl⟩, ht, pa_i r9 ⟨_, Or.inl ⟨d1, by rw [hcj]; exact inRn d2 hj (by decide), rfl⟩, rfl, pa_i r12 (pa_i hP.1.2.2.2.1 ?_)⟩⟩⟩
        rw [nc_it (P := ∃ i j n, i < 8 ∧ b = nI i ∧ j < 8 ∧ c = nI j ∧ Q.mp i = some n ∧ Q.mp j = some n) ⟨i, j, p, hi, hbi, hj, hcj, e1, e2⟩, nc_it (P := ∃ i j n, i < 8 ∧ b = nI i ∧ j < 8 ∧ c = nI j ∧ Q.mp i = some n ∧ Q.mp j = some n) ⟨i, j, p, hi, hbi, hj, hcj, e1, e2⟩, cb, cc, v1, v2]
        refine ⟨F, 25, hr, kz 12, Q.hu, f0, s0, A 1, _, ⟨hu, h32, g.gch, nf (g 0).2, nf (g 1).2.2, fun w hw => ?_, hRl⟩, ?_, ?_, fun S4 h4 => ?_⟩
        · obtain ⟨x, hx, rfl⟩ := List.mem_map.1 hw
          obtain ⟨k, rfl, hkn, hkc⟩ := g.nd hx
          exact nf (g 11 k hkn).1
        · rw [eP]; omega
        · rw [eP]; omega
        · rw [eP] at h4 ⊢
          obtain ⟨F4, r4, w1, w2, w3⟩ := h4
          have fo4 : FO S4 F4 := w1.2.2.2.2.2.2.2.2.2.2.2.2.2.2.2.2.1
          have okx : (dfX kz Q i j).1 ≤ 32768 ∧ (dfX kz Q i j).2.2.2.2.1 = 0 ∧ (dfX kz Q i j).2.2.2.2.2 = 0 := hrun_ok (n := 0) ⟨h32, Nat.le_refl 0, Nat.le_refl 0, Nat.le_refl 0⟩ (by
            rw [← eP]; unfold hmP; rw [List.length_map]; omega) (fun q hq => by
            unfold dfP at hq
            rw [e1] at hq
            obtain ⟨x, -, rfl⟩ := List.mem_map.1 hq
            exact ⟨stM_01, stM_01⟩)
          have w1 : HuR S4 F4 25 (z 12) r4 (dfX kz Q i j).1 (dfX kz Q i j).2.1 (dfX kz Q i j).2.2.1 (dfX kz Q i j).2.2.2.1 (dfX kz Q i j).2.2.2.2.1 (dfX kz Q i j).2.2.2.2.2 := w1
          rw [okx.2.1, okx.2.2] at w1
          have hw := hz.hunk (K' := upF kz 12 (dfX kz Q i j).1) ⟨r4, _, _, by rw [upF_s]; exact ⟨w1, okx.1⟩⟩ (fun l hl => upF_o hl) w3 w2 fo4
          have m12 : mR S4 1212 t = some (z 12) := hw.1.1.2.2.1 12 (by decide) (by decide) (by decide) (by decide)
          refine ⟨hw.1.1.1, pa_i m12 ⟨w1.1, rfl, trivial, ⟨_, rfl, i, j, p, hi, hbi, hj, hcj, e1, e2, w1.2.2.2.2.2.2.2.2.2.2.1, F4, ⟨z, hw⟩, w2, w3.mono (fun b _ e => by show cO (F b).1; rw [e]; exact ⟨by decide, by decide⟩)⟩, ?_, ?_⟩⟩
          · show _ ≤ nc_i (∃ i j n, i < 8 ∧ b = nI i ∧ j < 8 ∧ c = nI j ∧ Q.mp i = some n ∧ Q.mp j = some n) (hrC (dfP Q b.toNatClampNeg c.toNatClampNeg) (kz 12, [], 0, 0, 0, 0)) + 3
            rw [nc_it ⟨i, j, p, hi, hbi, hj, hcj, e1, e2⟩, cb, cc]; omega
          · show _ ≤ nc_i (∃ i j n, i < 8 ∧ b = nI i ∧ j < 8 ∧ c = nI j ∧ Q.mp i = some n ∧ Q.mp j = some n) (hrZ (dfP Q b.toNatClampNeg c.toNatClampNeg) (kz 12, [], 0, 0, 0, 0)) + 18
            rw [nc_it ⟨i, j, p, hi, hbi, hj, hcj, e1, e2⟩, cb, cc]; omega
  · exact fun _ _ _ _ _ h => by cases h
theorem u_wdf2 (l : Launch) (hlt : l.stackTraces = false) : UsX l yX11_differ (Cond.code yX11_differ cX11_differ 5 (some .int)) (some .int) 8 130 12 T_wdf2 := by
  intro Rc Rs av S cs sl K Kx h
  unfold T_wdf2 at h
  split at h
  · rename_i t_o b c
    obtain ⟨t, rfl, h_1⟩ := pa_of h
    obtain ⟨F, X, kz, Q, hp, hc, hs, hk, hx0, hx1, hx2⟩ := h_1
    refine ⟨(sp_wdf2 t b c F X kz Q), c_wdf2 l hlt t b c F X kz Q, fun _ _ h9 => ⟨_, _, h9.1, h9.2.1.choose_spec.1.1.1⟩, ⟨rfl, hp⟩, hc, hs, fun v9 S' h8 => by
      obtain ⟨v8, h7, h8⟩ := h8
      cases h7
      exact hk _ _ h8, fun _ _ q => by
      rcases q with ⟨rfl, q⟩ | ⟨rfl, q⟩ | ⟨rfl, q⟩
      · obtain ⟨q, rfl⟩ := q
        exact hx0 q
      · obtain ⟨q, rfl⟩ := q
        exact hx1 q
      · obtain ⟨q, rfl⟩ := q
        exact hx2 q⟩
  · exact h.elim
def T_win2 : TR := fun Rc Rs av S cs sl K Kx => match av with
  | [.inr (.inr t_o), .inl p, .inl x] => pa t_o fun t => (∃ (F : Nat → Nat × Nat) (X : Nat → GX) (kz : Nat → Nat) (Q : Ab), (WT S F t X kz Q ∧ AbE kz) ∧ cs + (nc_i (∃ n i, n < 4 ∧ p = nI n ∧ i ≤ visN (Q.G n) (Q.T n) ∧ x = nI i) (nc_inC kz Q p.toNatClampNeg) + 3) ≤ Rc ∧ sl + (nc_i (∃ n i, n < 4 ∧ p = nI n ∧ i ≤ visN (Q.G n) (Q.T n) ∧ x = nI i) (nc_inZ kz Q p.toNatClampNeg) + 18) ≤ Rs ∧ ((∀ (v : Int32) (S' : MM), (∃ (n i : Nat) (L : List Nat) (Q1 : Ab) (X1 : Nat → GX) (kz1 : Nat → Nat), n < 4 ∧ p = nI n ∧ i ≤ visN (Q.G n) (Q.T n) ∧ x = nI i ∧ syms Q.tp = some (L.map nI) ∧ roP (Q.G n) n L.length ∧ v = nI L.length ∧ insR Q X kz n i L Q1 X1 kz1 ∧ wtQ S S' F t X1 kz1 (Q1.sTp [])) → K (some (.inl v)) S' (cs + (nc_i (∃ n i, n < 4 ∧ p = nI n ∧ i ≤ visN (Q.G n) (Q.T n) ∧ x = nI i) (nc_inC kz Q p.toNatClampNeg) + 3)) (sl + (nc_i (∃ n i, n < 4 ∧ p = nI n ∧ i ≤ visN (Q.G n) (Q.T n) ∧ x = nI i) (nc_inZ kz Q p.toNatClampNeg) + 18))) ∧ ((np 4 p ∨ ∃ n, n < 4 ∧ p = nI n ∧ np (visN (Q.G n) (Q.T n) + 1) x) → Kx 1 S (cs + (nc_i (∃ n i, n < 4 ∧ p = nI n ∧ i ≤ visN (Q.G n) (Q.T n) ∧ x = nI i) (nc_inC kz Q p.toNatClampNeg) + 3)) (sl + (nc_i (∃ n i, n < 4 ∧ p = nI n ∧ i ≤ visN (Q.G n) (Q.T n) ∧ x = nI i) (nc_inZ kz Q p.toNatClampNeg) + 18))) ∧ (∀ (S' : MM), ((∃ n i, n < 4 ∧ p = nI n ∧ i ≤ visN (Q.G n) (Q.T n) ∧ x = nI i) ∧ syms Q.tp = none ∧ wtQ S S' F t X kz (Q.sTp [])) → Kx 3 S' (cs + (nc_i (∃ n i, n < 4 ∧ p = nI n ∧ i ≤ visN (Q.G n) (Q.T n) ∧ x = nI i) (nc_inC kz Q p.toNatClampNeg) + 3)) (sl + (nc_i (∃ n i, n < 4 ∧ p = nI n ∧ i ≤ visN (Q.G n) (Q.T n) ∧ x = nI i) (nc_inZ kz Q p.toNatClampNeg) + 18))) ∧ (∀ (S' : MM), ((∃ (n i : Nat) (L : List Nat), n < 4 ∧ p = nI n ∧ i ≤ visN (Q.G n) (Q.T n) ∧ x = nI i ∧ syms Q.tp = some (L.map nI) ∧ ¬ roP (Q.G n) n L.length) ∧ wtQ S S' F t X kz (Q.sTp [])) → Kx 0 S' (cs + (nc_i (∃ n i, n < 4 ∧ p = nI n ∧ i ≤ visN (Q.G n) (Q.T n) ∧ x = nI i) (nc_inC kz Q p.toNatClampNeg) + 3)) (sl + (nc_i (∃ n i, n < 4 ∧ p = nI n ∧ i ≤ visN (Q.G n) (Q.T n) ∧ x = nI i) (nc_inZ kz Q p.toNatClampNeg) + 18)))))
  | _ => False
noncomputable def sp_win2 (t : Nat) (p : Int32) (x : Int32) (F : Nat → Nat × Nat) (X : Nat → GX) (kz : Nat → Nat) (Q : Ab) : Sp := (fun av S => av = [.inr (.inr (some t)), .inl p, .inl x] ∧ (WT S F t X kz Q ∧ AbE kz), fun _ S => nc_i (∃ n i, n < 4 ∧ p = nI n ∧ i ≤ visN (Q.G n) (Q.T n) ∧ x = nI i) (nc_inC kz Q p.toNatClampNeg) + 3, fun _ S => nc_i (∃ n i, n < 4 ∧ p = nI n ∧ i ≤ visN (Q.G n) (Q.T n) ∧ x = nI i) (nc_inZ kz Q p.toNatClampNeg) + 18, fun _ S rv S' => ∃ v, rv = (some (.inl v)) ∧ (∃ (n i : Nat) (L : List Nat) (Q1 : Ab) (X1 : Nat → GX) (kz1 : Nat → Nat), n < 4 ∧ p = nI n ∧ i ≤ visN (Q.G n) (Q.T n) ∧ x = nI i ∧ syms Q.tp = some (L.map nI) ∧ roP (Q.G n) n L.length ∧ v = nI L.length ∧ insR Q X kz n i L Q1 X1 kz1 ∧ wtQ S S' F t X1 kz1 (Q1.sTp [])), fun _ S E S' => (E = 1 ∧ (np 4 p ∨ ∃ n, n < 4 ∧ p = nI n ∧ np (visN (Q.G n) (Q.T n) + 1) x) ∧ S' = S) ∨ (E = 3 ∧ ((∃ n i, n < 4 ∧ p = nI n ∧ i ≤ visN (Q.G n) (Q.T n) ∧ x = nI i) ∧ syms Q.tp = none ∧ wtQ S S' F t X kz (Q.sTp []))) ∨ (E = 0 ∧ ((∃ (n i : Nat) (L : List Nat), n < 4 ∧ p = nI n ∧ i ≤ visN (Q.G n) (Q.T n) ∧ x = nI i ∧ syms Q.tp = some (L.map nI) ∧ ¬ roP (Q.G n) n L.length) ∧ wtQ S S' F t X kz (Q.sTp []))))
set_option maxRecDepth 100000 in
set_option maxHeartbeats 2000000 in
theorem c_win2 (l : Launch) (hlt : l.stackTraces = false) : ∀ (t : Nat) (p : Int32) (x : Int32) (F : Nat → Nat × Nat) (X : Nat → GX) (kz : Nat → Nat) (Q : Ab), CtX l yX11_insert (Cond.code yX11_insert cX11_insert 6 (some .int)) (some .int) 10 245 (sp_win2 t p x F X kz Q) := by
  intro t p x F X kz Q
  refine CtX.of hlt (fX11, nX11, aX11, iX11, lX11, [(108, 0, 2, 3, T_wpo), (104, 2, 1, 0, T_wrq), (121, 0, 1, 1, T_cnts), (125, 0, 2, 1, T_phr), (129, 0, 4, 0, T_pit), (133, 0, 1, 0, T_bclr)], qX11, gX11, thX11) false tX11_insert (fun _ S => look [(26, ([0,2,3], I_in t p x F X kz Q S)), (75, ([0,4,5], I_in2 t p x F X kz Q S))]) (by decide) (by decide) kX11_insert ⟨_, _, rfl⟩ fX11_ok nX11_ok aX11_ok iX11_ok lX11_ok (fun p e R s m args below meth c Q D cy z r A C hR1 hR2 => List.forall_mem_cons.mpr ⟨cOK_use (fun _ _ _ _ _ _ _ _ h => let ⟨sp, h1, h2, h3⟩ := u_wpo l hlt _ _ _ _ _ _ _ _ h; ⟨sp, cOKx_V C h1 vX11_insert_108 ⟨by decide, by decide, by decide +kernel⟩ ⟨by rw [hR1]; decide, by rw [hR2]; decide⟩ (k := 12) (T := TX11) (N := 15) rfl (by decide) h2, h3⟩), List.forall_mem_cons.mpr ⟨cOK_use (fun _ _ _ _ _ _ _ _ h => let ⟨sp, h1, _, h3⟩ := u_wrq l hlt _ _ _ _ _ _ _ _ h; ⟨sp, cOKx_S C h1 vX11_insert_104 ⟨by decide, by decide, by decide +kernel⟩ ⟨by rw [hR1]; decide, by rw [hR2]; decide⟩, h3⟩), List.forall_mem_cons.mpr ⟨cOK_use (fun _ _ _ _ _ _ _ _ h => let ⟨sp, h1, h2, h3⟩ := u_cnts l _ _ _ _ _ _ _ _ h; ⟨sp, cOK_V C h1 vX11_insert_121 ⟨by decide, by decide, by decide +kernel⟩ ⟨by rw [hR1]; decide, by rw [hR2]; decide⟩ (k := 2) (T := TX1) (N := 3) rfl (by decide) h2, h3⟩), List.forall_mem_cons.mpr ⟨cOK_use (fun _ _ _ _ _ _ _ _ h => let ⟨sp, h1, h2, h3⟩ := u_phr l _ _ _ _ _ _ _ _ h; ⟨sp, cOK_V C h1 vX11_insert_125 ⟨by decide, by decide, by decide +kernel⟩ ⟨by rw [hR1]; decide, by rw [hR2]; decide⟩ (k := 11) (T := TX10) (N := 6) rfl (by decide) h2, h3⟩), List.forall_mem_cons.mpr ⟨cOK_use (fun _ _ _ _ _ _ _ _ h => let ⟨sp, h1, h2, h3⟩ := u_pit l _ _ _ _ _ _ _ _ h; ⟨sp, cOK_V C h1 vX11_insert_129 ⟨by decide, by decide, by decide +kernel⟩ ⟨by rw [hR1]; decide, by rw [hR2]; decide⟩ (k := 11) (T := TX10) (N := 6) rfl (by decide) h2, h3⟩), List.forall_mem_cons.mpr ⟨cOK_use (fun _ _ _ _ _ _ _ _ h => let ⟨sp, h1, h2, h3⟩ := u_bclr l _ _ _ _ _ _ _ _ h; ⟨sp, cOK_V C h1 vX11_insert_133 ⟨by decide, by decide, by decide +kernel⟩ ⟨by rw [hR1]; decide, by rw [hR2]; decide⟩ (k := 2) (T := TX1) (N := 3) rfl (by decide) h2, h3⟩), fun _ h => absurd h List.not_mem_nil⟩⟩⟩⟩⟩⟩) qX11_ok gX11_ok (fun q hq => ⟨thX11_ok q hq, by decide, by decide⟩) ?_ ?_
  · rintro _ S ⟨rfl, hp⟩
    refine ⟨Nat.le_of_ble_eq_true rfl, 300, ?_⟩
    show (0 = 0 ∧ (∃ (F_1 : Nat → Nat × Nat) (z_2 : Nat → Nat), (SfA S F_1 t z_2) ∧ 0 + 1 ≤ nc_i (∃ n i, n < 4 ∧ p = nI n ∧ i ≤ visN (Q.G n) (Q.T n) ∧ x = nI i) (nc_inC kz Q p.toNatClampNeg) + 3 ∧ 0 + 6 ≤ nc_i (∃ n i, n < 4 ∧ p = nI n ∧ i ≤ visN (Q.G n) (Q.T n) ∧ x = nI i) (nc_inZ kz Q p.toNatClampNeg) + 18 ∧ ((∀ (x_4 : Option Nat) (S_3 : MM), (S_3 = S ∧ ∃ n, n < 4 ∧ p = nI n ∧ x_4 = some (z_2 (30 + n))) → ((x < 0 → (∃ k1, I_in t p x F X kz Q S k1 [(0, .inr (.inr (some t))), (2, .inl x), (3, .inr (.inr x_4))] [.inl (0 : Int32)] S_3 (0 + 1) (0 + 6))) ∧ (¬ x < 0 → (pa x_4 fun a_5 => isO S_3 11 a_5 ∧ (pa (mR S_3 1101 a_5) fun a_6 => isO S_3 6 a_6 ∧ (((mI S_3 605 a_6) < x → (∃ k1, I_in t p x F X kz Q S k1 [(0, .inr (.inr (some t))), (2, .inl x), (3, .inr (.inr x_4))] [.inl (0 : Int32)] S_3 (0 + 1) (0 + 6))) ∧ (¬ (mI S_3 605 a_6) < x → (∃ k1, I_in t p x F X kz Q S k1 [(0, .inr (.inr (some t))), (2, .inl x), (3, .inr (.inr x_4))] [.inl (1 : Int32)] S_3 (0 + 1) (0 + 6))))))))) ∧ ((np 4 p) → mthr (sp_win2 t p x F X kz Q) [.inr (.inr (some t)), .inl p, .inl x] S 1 S (0 + 1) (0 + 6)))))
    obtain ⟨⟨z, hz⟩, hE⟩ := hp
    refine ⟨rfl, F, z, hz.1.1, by omega, by omega, fun v S3 h => ?_, fun h => ⟨Or.inl ⟨rfl, Or.inl h, rfl⟩, by show _ ≤ nc_i (∃ n i, n < 4 ∧ p = nI n ∧ i ≤ visN (Q.G n) (Q.T n) ∧ x = nI i) (nc_inC kz Q p.toNatClampNeg) + 3; omega, by show _ ≤ nc_i (∃ n i, n < 4 ∧ p = nI n ∧ i ≤ visN (Q.G n) (Q.T n) ∧ x = nI i) (nc_inZ kz Q p.toNatClampNeg) + 18; omega⟩⟩
    obtain ⟨rfl, n, hn, rfl, rfl⟩ := h
    obtain ⟨A, H, W, r, a', d, ea, kn, kr, cu, hP⟩ := hz.2.1 n hn
    have g := hP.gi
    have r1 : mR S3 1101 (z (30 + n)) = some (A 0) := hP.1.2.2.2.1
    have m5 : mI S3 605 (A 0) = nI (visN (Q.G n) (Q.T n)) := g 6
    have vl := g.vl
    have bad : np (visN (Q.G n) (Q.T n) + 1) x → ∃ k1, I_in t (nI n) x F X kz Q S3 k1 [(0, .inr (.inr (some t))), (2, .inl x), (3, .inr (.inr (some (z (30 + n)))))] [.inl 0] S3 (0 + 1) (0 + 6) := fun q => ⟨1, 0, n, z, rfl, hz, hn, rfl, Or.inr ⟨rfl, q⟩, rfl, rfl, rfl, rfl, rfl⟩
    refine ⟨fun q => bad (np_lo (by omega) q), fun q3 => pa_i rfl ⟨hP.1.1, pa_i r1 ⟨(g 0).1, ?_⟩⟩⟩
    rw [m5]
    obtain ⟨j, hj, rfl⟩ := nI_of q3
    refine ⟨fun q => bad (fun j2 hj2 e => ?_), fun q => ⟨1, 1, n, z, rfl, hz, hn, rfl, Or.inl ⟨rfl, j, ?_, rfl⟩, rfl, rfl, rfl, rfl, rfl⟩⟩
    · have := (nI_ltI (by omega) hj).1 q
      have := (nI_eq hj (by omega)).1 e
      omega
    · exact Nat.le_of_not_lt (fun w => q ((nI_ltI (by omega) hj).2 w))
  · intro av S hpre pc I hI k lo st S1 cs sl h
    obtain ⟨rfl, hp⟩ := hpre
    have hm := look_in hI
    simp only [List.mem_cons, List.not_mem_nil, or_false] at hm
    rcases hm with hm | hm
    · cases hm
      obtain ⟨c, n, z, rfl, hz, hn, hpn, hc, rfl, rfl, rfl, rfl, rfl⟩ := h
      refine ⟨300, ?_⟩
      show (2 = 2 ∧ ((c = 0 ∨ c = 1) ∧ 1 + 1 ≤ nc_i (∃ n i, n < 4 ∧ p = nI n ∧ i ≤ visN (Q.G n) (Q.T n) ∧ x = nI i) (nc_inC kz Q p.toNatClampNeg) + 3 ∧ 6 + 6 ≤ nc_i (∃ n i, n < 4 ∧ p = nI n ∧ i ≤ visN (Q.G n) (Q.T n) ∧ x = nI i) (nc_inZ kz Q p.toNatClampNeg) + 18 ∧ ((∀ (S_1 : MM), (S_1 = S ∧ c = 1) → (isO S_1 12 t ∧ (0 = 0 ∧ ((pa (mR S_1 1200 t) fun a_2 => (∃ (d_3 : Nat) (B_4 : List Nat), (By S_1 a_2 d_3 B_4) ∧ 1 + 1 ≤ nc_i (∃ n i, n < 4 ∧ p = nI n ∧ i ≤ visN (Q.G n) (Q.T n) ∧ x = nI i) (nc_inC kz Q p.toNatClampNeg) + 3 ∧ 6 + 6 ≤ nc_i (∃ n i, n < 4 ∧ p = nI n ∧ i ≤ visN (Q.G n) (Q.T n) ∧ x = nI i) (nc_inZ kz Q p.toNatClampNeg) + 18 ∧ ((((cntS (syms B_4) 0) < 0 → (((0 : Int32) = 0 → (∃ k1, k1 < 1 ∧ I_in2 t p x F X kz Q S k1 [(0, .inr (.inr (some t))), (4, .inl (cntS (syms B_4) 0)), (5, .inl (0 : Int32))] [] S_1 (1 + 1) (6 + 6))) ∧ (¬ (0 : Int32) = 0 → (isO S_1 12 t ∧ (0 = 0 ∧ ((pa (mR S_1 1200 t) fun a_6 => (∃ (ix_7 : Nat), x = nI ix_7 ∧ (∃ (n_8 : Nat), cntS (syms B_4) 0 = nI n_8 ∧ (∃ (F_9 : Nat → Nat × Nat) (i_10 jo_11 r_12 p_13 s_14 : Nat) (A_15 : Nat → Nat) (X_16 : GX) (G_17 : Gr) (T_18 : Tr) (H_19 : List Nat) (W_20 : Nat → Nat) (a_21 d_22 c_23 : Nat) (E_24 : List (Nat × Nat)) (ea_25 : Nat → Nat) (td_26 : Nat) (B_27 L_28 : List Nat), (WrR S_1 F_9 i_10 jo_11 (z (30 + n)) r_12 p_13 A_15 X_16 G_17 T_18 H_19 W_20 ∧ mR S_1 1102 (z (30 + n)) = some a_21 ∧ EdL S_1 F_9 jo_11 a_21 d_22 c_23 E_24 ea_25 ∧ c_23 ≤ 50000 ∧ p_13 < 256 ∧ (n_8 ≠ 0 → OwSl G_17 p_13 s_14) ∧ G_17.n + n_8 ≤ 8192 ∧ ix_7 ≤ visN G_17 T_18 ∧ By S_1 a_6 td_26 B_27 ∧ (F_9 a_6).1 ≠ i_10 ∧ (F_9 td_26).1 ≠ i_10 ∧ syms B_27 = some (L_28.map nI) ∧ n_8 = L_28.length ∧ (∀ x ∈ L_28, x ≤ 1114111)) ∧ 1 + 1 + (runC G_17 s_14 n_8 + ekC c_23 E_24.length n_8) ≤ nc_i (∃ n i, n < 4 ∧ p = nI n ∧ i ≤ visN (Q.G n) (Q.T n) ∧ x = nI i) (nc_inC kz Q p.toNatClampNeg) + 3 ∧ 6 + 6 + (runZ G_17 s_14 n_8 + ekZ c_23 E_24.length n_8) ≤ nc_i (∃ n i, n < 4 ∧ p = nI n ∧ i ≤ visN (Q.G n) (Q.T n) ∧ x = nI i) (nc_inZ kz Q p.toNatClampNeg) + 18 ∧ (∀ (S_29 : MM), (itQ S_1 S_29 F_9 i_10 jo_11 (z (30 + n)) r_12 p_13 s_14 A_15 X_16 G_17 T_18 a_21 d_22 c_23 E_24 ea_25 (insO ix_7 L_28)) → (∃ k1, k1 < 1 ∧ I_in2 t p x F X kz Q S k1 [(0, .inr (.inr (some t))), (4, .inl (cntS (syms B_4) 0)), (5, .inl (0 : Int32))] [] S_29 (1 + 1 + (runC G_17 s_14 n_8 + ekC c_23 E_24.length n_8)) (6 + 6 + (runZ G_17 s_14 n_8 + ekZ c_23 E_24.length n_8)))))))))))))) ∧ (¬ (cntS (syms B_4) 0) < 0 → (0 = 0 ∧ (∃ (n_30 : Nat), cntS (syms B_4) 0 = nI n_30 ∧ (∃ (p_31 : Nat) (F_32 : Nat → Nat × Nat) (i_33 : Nat) (A_34 : Nat → Nat) (X_35 : GX) (G_36 : Gr) (T_37 : Tr) (H_38 : List Nat) (W_39 : Nat → Nat), (isO S_1 11 (z (30 + n)) ∧ mI S_1 1100 (z (30 + n)) = nI p_31 ∧ mR S_1 1101 (z (30 + n)) = some (A_34 0) ∧ GI S_1 F_32 i_33 A_34 X_35 G_36 T_37 H_38 W_39 ∧ p_31 < 256 ∧ n_30 ≤ 1000000) ∧ 1 + 1 ≤ nc_i (∃ n i, n < 4 ∧ p = nI n ∧ i ≤ visN (Q.G n) (Q.T n) ∧ x = nI i) (nc_inC kz Q p.toNatClampNeg) + 3 ∧ 6 + 6 ≤ nc_i (∃ n i, n < 4 ∧ p = nI n ∧ i ≤ visN (Q.G n) (Q.T n) ∧ x = nI i) (nc_inZ kz Q p.toNatClampNeg) + 18 ∧ ((((tf (n_30 = 0 ∨ (G_36.n + n_30 ≤ 8192 ∧ (hasAg G_36 p_31 ∨ G_36.m < 16)))) = 0 → (((0 : Int32) = 0 → (∃ k1, k1 < 1 ∧ I_in2 t p x F X kz Q S k1 [(0, .inr (.inr (some t))), (4, .inl (cntS (syms B_4) 0)), (5, .inl (0 : Int32))] [] S_1 (1 + 1) (6 + 6))) ∧ (¬ (0 : Int32) = 0 → (isO S_1 12 t ∧ (0 = 0 ∧ ((pa (mR S_1 1200 t) fun a_41 => (∃ (ix_42 : Nat), x = nI ix_42 ∧ (∃ (n_43 : Nat), cntS (syms B_4) 0 = nI n_43 ∧ (∃ (F_44 : Nat → Nat × Nat) (i_45 jo_46 r_47 p_48 s_49 : Nat) (A_50 : Nat → Nat) (X_51 : GX) (G_52 : Gr) (T_53 : Tr) (H_54 : List Nat) (W_55 : Nat → Nat) (a_56 d_57 c_58 : Nat) (E_59 : List (Nat × Nat)) (ea_60 : Nat → Nat) (td_61 : Nat) (B_62 L_63 : List Nat), (WrR S_1 F_44 i_45 jo_46 (z (30 + n)) r_47 p_48 A_50 X_51 G_52 T_53 H_54 W_55 ∧ mR S_1 1102 (z (30 + n)) = some a_56 ∧ EdL S_1 F_44 jo_46 a_56 d_57 c_58 E_59 ea_60 ∧ c_58 ≤ 50000 ∧ p_48 < 256 ∧ (n_43 ≠ 0 → OwSl G_52 p_48 s_49) ∧ G_52.n + n_43 ≤ 8192 ∧ ix_42 ≤ visN G_52 T_53 ∧ By S_1 a_41 td_61 B_62 ∧ (F_44 a_41).1 ≠ i_45 ∧ (F_44 td_61).1 ≠ i_45 ∧ syms B_62 = some (L_63.map nI) ∧ n_43 = L_63.length ∧ (∀ x ∈ L_63, x ≤ 1114111)) ∧ 1 + 1 + (runC G_52 s_49 n_43 + ekC c_58 E_59.length n_43) ≤ nc_i (∃ n i, n < 4 ∧ p = nI n ∧ i ≤ visN (Q.G n) (Q.T n) ∧ x = nI i) (nc_inC kz Q p.toNatClampNeg) + 3 ∧ 6 + 6 + (runZ G_52 s_49 n_43 + ekZ c_58 E_59.length n_43) ≤ nc_i (∃ n i, n < 4 ∧ p = nI n ∧ i ≤ visN (Q.G n) (Q.T n) ∧ x = nI i) (nc_inZ kz Q p.toNatClampNeg) + 18 ∧ (∀ (S_64 : MM), (itQ S_1 S_64 F_44 i_45 jo_46 (z (30 + n)) r_47 p_48 s_49 A_50 X_51 G_52 T_53 a_56 d_57 c_58 E_59 ea_60 (insO ix_42 L_63)) → (∃ k1, k1 < 1 ∧ I_in2 t p x F X kz Q S k1 [(0, .inr (.inr (some t))), (4, .inl (cntS (syms B_4) 0)), (5, .inl (0 : Int32))] [] S_64 (1 + 1 + (runC G_52 s_49 n_43 + ekC c_58 E_59.length n_43)) (6 + 6 + (runZ G_52 s_49 n_43 + ekZ c_58 E_59.length n_43)))))))))))))) ∧ (¬ (tf (n_30 = 0 ∨ (G_36.n + n_30 ≤ 8192 ∧ (hasAg G_36 p_31 ∨ G_36.m < 16)))) = 0 → (((1 : Int32) = 0 → (∃ k1, k1 < 1 ∧ I_in2 t p x F X kz Q S k1 [(0, .inr (.inr (some t))), (4, .inl (cntS (syms B_4) 0)), (5, .inl (1 : Int32))] [] S_1 (1 + 1) (6 + 6))) ∧ (¬ (1 : Int32) = 0 → (isO S_1 12 t ∧ (0 = 0 ∧ ((pa (mR S_1 1200 t) fun a_65 => (∃ (ix_66 : Nat), x = nI ix_66 ∧ (∃ (n_67 : Nat), cntS (syms B_4) 0 = nI n_67 ∧ (∃ (F_68 : Nat → Nat × Nat) (i_69 jo_70 r_71 p_72 s_73 : Nat) (A_74 : Nat → Nat) (X_75 : GX) (G_76 : Gr) (T_77 : Tr) (H_78 : List Nat) (W_79 : Nat → Nat) (a_80 d_81 c_82 : Nat) (E_83 : List (Nat × Nat)) (ea_84 : Nat → Nat) (td_85 : Nat) (B_86 L_87 : List Nat), (WrR S_1 F_68 i_69 jo_70 (z (30 + n)) r_71 p_72 A_74 X_75 G_76 T_77 H_78 W_79 ∧ mR S_1 1102 (z (30 + n)) = some a_80 ∧ EdL S_1 F_68 jo_70 a_80 d_81 c_82 E_83 ea_84 ∧ c_82 ≤ 50000 ∧ p_72 < 256 ∧ (n_67 ≠ 0 → OwSl G_76 p_72 s_73) ∧ G_76.n + n_67 ≤ 8192 ∧ ix_66 ≤ visN G_76 T_77 ∧ By S_1 a_65 td_85 B_86 ∧ (F_68 a_65).1 ≠ i_69 ∧ (F_68 td_85).1 ≠ i_69 ∧ syms B_86 = some (L_87.map nI) ∧ n_67 = L_87.length ∧ (∀ x ∈ L_87, x ≤ 1114111)) ∧ 1 + 1 + (runC G_76 s_73 n_67 + ekC c_82 E_83.length n_67) ≤ nc_i (∃ n i, n < 4 ∧ p = nI n ∧ i ≤ visN (Q.G n) (Q.T n) ∧ x = nI i) (nc_inC kz Q p.toNatClampNeg) + 3 ∧ 6 + 6 + (runZ G_76 s_73 n_67 + ekZ c_82 E_83.length n_67) ≤ nc_i (∃ n i, n < 4 ∧ p = nI n ∧ i ≤ visN (Q.G n) (Q.T n) ∧ x = nI i) (nc_inZ kz Q p.toNatClampNeg) + 18 ∧ (∀ (S_88 : MM), (itQ S_1 S_88 F_68 i_69 jo_70 (z (30 + n)) r_71 p_72 s_73 A_74 X_75 G_76 T_77 a_80 d_81 c_82 E_83 ea_84 (insO ix_66 L_87)) → (∃ k1, k1 < 1 ∧ I_in2 t p x F X kz Q S k1 [(0, .inr (.inr (some t))), (4, .inl (cntS (syms B_4) 0)), (5, .inl (1 : Int32))] [] S_88 (1 + 1 + (runC G_76 s_73 n_67 + ekC c_82 E_83.length n_67)) (6 + 6 + (runZ G_76 s_73 n_67 + ekZ c_82 E_83.length n_67)))))))))))))))))))))))))))) ∧ ((c = 0) → mthr (sp_win2 t p x F X kz Q) [.inr (.inr (some t)), .inl p, .inl x] S 1 S (1 + 1) (6 + 6)))))
      have cn : p.toNatClampNeg = n := by rw [hpn]; exact nI_clamp (by omega)
      have hE := hp.2
      rw [cn]
      refine ⟨rfl, hc.elim (fun q => Or.inr q.1) (fun q => Or.inl q.1), by omega, by omega, fun S3 h3 => ?_, fun h0 => ⟨Or.inl ⟨rfl, Or.inr ⟨n, hn, hpn, hc.elim (fun q => absurd (q.1.symm.trans h0) (by decide)) (fun q => q.2)⟩, rfl⟩, by show _ ≤ nc_i (∃ n i, n < 4 ∧ p = nI n ∧ i ≤ visN (Q.G n) (Q.T n) ∧ x = nI i) (nc_inC kz Q p.toNatClampNeg) + 3; omega, by show _ ≤ nc_i (∃ n i, n < 4 ∧ p = nI n ∧ i ≤ visN (Q.G n) (Q.T n) ∧ x = nI i) (nc_inZ kz Q p.toNatClampNeg) + 18; omega⟩⟩
      obtain ⟨rfl, rfl⟩ := h3
      obtain ⟨i, hi, exi⟩ : ∃ i, i ≤ visN (Q.G n) (Q.T n) ∧ x = nI i := hc.elim (fun q => q.2) (fun q => absurd q.1 (by decide))
      have nC := nc_it (P := ∃ n i, n < 4 ∧ p = nI n ∧ i ≤ visN (Q.G n) (Q.T n) ∧ x = nI i) (a := nc_inC kz Q n) ⟨n, i, hn, hpn, hi, exi⟩
      have nZ := nc_it (P := ∃ n i, n < 4 ∧ p = nI n ∧ i ≤ visN (Q.G n) (Q.T n) ∧ x = nI i) (a := nc_inZ kz Q n) ⟨n, i, hn, hpn, hi, exi⟩
      obtain ⟨A, H, W, r, a', d, ea, kn, kr, cu, hP⟩ := hz.2.1 n hn
      have gi := hP.gi
      have r0 : mR S3 1200 t = some (z 0) := hz.1.1.2.2.1 0 (by decide) (by decide) (by decide) (by decide)
      obtain ⟨dt, ht⟩ := hz.2.2.1
      have same : ∀ v c' z', c' = nc_inC kz Q n + 2 → z' = nc_inZ kz Q n + 12 → ((syms Q.tp = none ∧ v < 0) ∨ ∃ L : List Nat, syms Q.tp = some (L.map nI) ∧ L.length ≤ 32768 ∧ ¬ roP (Q.G n) n L.length ∧ v = nI L.length) → I_in2 t p x F X kz Q S3 0 [(0, .inr (.inr (some t))), (4, .inl v), (5, .inl 0)] [] S3 c' z' := fun v c' z' e1 e2 hv => ⟨n, i, z, v, 0, F, X, kz, Q, rfl, hn, hpn, hi, exi, hz, fun _ _ => rfl, Keep.rf, Or.inr ⟨rfl, rfl, rfl, rfl, hv⟩, rfl, rfl, e1, e2⟩
      refine ⟨hz.1.1.1, rfl, pa_i r0 ⟨dt, Q.tp, ht.1, by omega, by omega, fun q => ⟨fun _ => ⟨0, by decide, ?_⟩, fun w => absurd rfl w⟩, fun q => ?_⟩⟩
      · have e := (cnts_neg ht.1.len).1 q
        exact same _ _ _ (by unfold nc_inC; rw [e]) (by unfold nc_inZ; rw [e]) (Or.inl ⟨e, q⟩)
      · cases e : syms Q.tp with
        | none => exact absurd ((cnts_neg ht.1.len).2 e) q
        | some l =>
          obtain ⟨L, rfl, hL1, hL2⟩ := syms_nat ht.1.bytesLt ht.1.len e
          have ec : cntS (some (L.map nI)) 0 = nI L.length := by show nI (0 + (L.map nI).length) = _; rw [List.length_map, Nat.zero_add]
          rw [ec]
          have eC : nc_inC kz Q n = nc_if (roP (Q.G n) n L.length) (runC (Q.G n) (owN (Q.G n) n) L.length + ekC (kz (30 + n)) (Q.E n).length L.length) 0 := by unfold nc_inC; rw [e]; show nc_if (roP (Q.G n) n (L.map nI).length) _ _ = _; rw [List.length_map]
          have eZ : nc_inZ kz Q n = nc_if (roP (Q.G n) n L.length) (runZ (Q.G n) (owN (Q.G n) n) L.length + ekZ (kz (30 + n)) (Q.E n).length L.length) 0 := by unfold nc_inZ; rw [e]; show nc_if (roP (Q.G n) n (L.map nI).length) _ _ = _; rw [List.length_map]
          refine ⟨rfl, L.length, rfl, n, F, n + 1, A, X n, Q.G n, Q.T n, H, W, ⟨hP.1.1, hP.1.2.2.1, hP.1.2.2.2.1, gi, by omega, by omega⟩, by omega, by omega, fun q0 => ⟨fun _ => ⟨0, by decide, ?_⟩, fun w => absurd rfl w⟩, fun q0 => ⟨fun w => absurd w (by decide), fun _ => ?_⟩⟩
          · have nr : ¬ roP (Q.G n) n L.length := fun w => by rw [tf_t (show L.length = 0 ∨ _ from w)] at q0; exact absurd q0 (by decide)
            exact same _ _ _ (by rw [eC, nc_f nr]) (by rw [eZ, nc_f nr]) (Or.inr ⟨L, e, hL2, nr, rfl⟩)
          · have yr : roP (Q.G n) n L.length := Classical.byContradiction (fun w => q0 (tf_f w))
            have h8 : (Q.G n).n + L.length ≤ 8192 := by
              rcases yr with w | w
              · have := gi.ok.hn; omega
              · exact w.1
            have eC2 := eC.trans (nc_t yr)
            have eZ2 := eZ.trans (nc_t yr)
            have nf : ∀ {b v}, F b = (21, v) → (F b).1 ≠ n + 1 := fun {b v} e w => by rw [e] at w; have w : 21 = n + 1 := w; omega
            refine ⟨hz.1.1.1, rfl, pa_i r0 ⟨i, exi, L.length, rfl, F, n + 1, n + 11, r, n, owN (Q.G n) n, A, X n, Q.G n, Q.T n, H, W, a', d, kz (30 + n), Q.E n, ea, dt, Q.tp, L, ⟨hP.1, hP.2.1, hP.2.2.1, hE n hn, by omega, fun hne => owN_ok (yr.resolve_left hne).2, h8, hi, ht.1, nf ht.2.1, nf ht.2.2.1, e, rfl, hL1⟩, by omega, by omega, fun S4 h4 => ⟨0, by decide, ?_⟩⟩⟩
            obtain ⟨F', A', X', G', T', H', W', w1, w2, w3, w4, w5, w6, w7, w8⟩ := h4
            have hop : (insO i L).length = L.length := insO_len i L
            have hne : insO i L ≠ [] → OwSl (Q.G n) n (owN (Q.G n) n) := fun w => owN_ok (yr.resolve_left (fun w2 => w (List.eq_nil_of_length_eq_zero (by rw [hop]; exact w2)))).2
            have hle := Run.le w6 hne
            have fin : ∀ d' c' E' ea', EdL S4 F' (n + 11) a' d' c' E' ea' → c' = (if L.length = 0 then kz (30 + n) else alK (kz (30 + n)) (Q.E n).length) → E' = (if L.length = 0 then Q.E n else Q.E n ++ [((Q.G n).n, L.length)]) → I_in2 t p x F X kz Q S3 0 [(0, .inr (.inr (some t))), (4, .inl (nI L.length)), (5, .inl 1)] [] S4 (1 + 1 + (runC (Q.G n) (owN (Q.G n) n) L.length + ekC (kz (30 + n)) (Q.E n).length L.length)) (6 + 6 + (runZ (Q.G n) (owN (Q.G n) n) L.length + ekZ (kz (30 + n)) (Q.E n).length L.length)) := fun d' c' E' ea' hed ec' eE' => by
              obtain ⟨g1, g2⟩ := hz.wrote hn hP w1 w2 hed w4 w5 w8 hle
              exact ⟨n, i, z, _, 1, F', _, _, _, rfl, hn, hpn, hi, exi, g1, w4, g2, Or.inl ⟨rfl, L, e, hL2, yr, rfl, G', T', X', w6, rfl, by rw [ec'], by rw [eE']⟩, rfl, rfl, by rw [eC2]; omega, by rw [eZ2]; omega⟩
            rcases w3 with ⟨h0, hed⟩ | ⟨h0, d', ea', hed⟩
            · rw [hop] at h0
              exact fin _ _ _ _ hed (by rw [if_pos h0]) (by rw [if_pos h0])
            · rw [hop] at h0 hed
              exact fin _ _ _ _ hed (by rw [if_neg h0]) (by rw [if_neg h0])
    · cases hm
      obtain ⟨n, i, z, v, b, F1, X1, kz1, Q1, rfl, hn, hpn, hi, exi, hz, hf1, hk1, hc, rfl, rfl, rfl, rfl⟩ := h
      refine ⟨300, ?_⟩
      show (isO S1 12 t ∧ (0 = 0 ∧ ((pa (mR S1 1200 t) fun a_1 => ((isO S1 2 a_1) ∧ nc_inC kz Q n + 2 ≤ nc_i (∃ n i, n < 4 ∧ p = nI n ∧ i ≤ visN (Q.G n) (Q.T n) ∧ x = nI i) (nc_inC kz Q p.toNatClampNeg) + 3 ∧ nc_inZ kz Q n + 12 ≤ nc_i (∃ n i, n < 4 ∧ p = nI n ∧ i ≤ visN (Q.G n) (Q.T n) ∧ x = nI i) (nc_inZ kz Q p.toNatClampNeg) + 18 ∧ (((0 ≤ v → ((¬ b = 0 → (([] : List MV) = [] ∧ mret (some .int) (sp_win2 t p x F X kz Q) [.inr (.inr (some t)), .inl p, .inl x] S (some (.inl v)) (clr S1 a_1) (nc_inC kz Q n + 2) (nc_inZ kz Q n + 12))) ∧ (b = 0 → (mthr (sp_win2 t p x F X kz Q) [.inr (.inr (some t)), .inl p, .inl x] S 0 (clr S1 a_1) (nc_inC kz Q n + 2 + 1) (nc_inZ kz Q n + 12 + 6))))) ∧ (¬ 0 ≤ v → (mthr (sp_win2 t p x F X kz Q) [.inr (.inr (some t)), .inl p, .inl x] S 3 (clr S1 a_1) (nc_inC kz Q n + 2 + 1) (nc_inZ kz Q n + 12 + 6))))))))))
      have cn : p.toNatClampNeg = n := by rw [hpn]; exact nI_clamp (by omega)
      rw [nc_it (P := ∃ n i, n < 4 ∧ p = nI n ∧ i ≤ visN (Q.G n) (Q.T n) ∧ x = nI i) ⟨n, i, hn, hpn, hi, exi⟩, nc_it (P := ∃ n i, n < 4 ∧ p = nI n ∧ i ≤ visN (Q.G n) (Q.T n) ∧ x = nI i) ⟨n, i, hn, hpn, hi, exi⟩, cn]
      have r0 : mR S1 1200 t = some (z 0) := hz.1.1.2.2.1 0 (by decide) (by decide) (by decide) (by decide)
      obtain ⟨dt, ht⟩ := hz.2.2.1
      obtain ⟨c1, c2⟩ := hz.clrT
      have wq : wtQ S (clr S1 (z 0)) F t X1 kz1 (Q1.sTp []) := ⟨F1, ⟨z, c1⟩, hf1, hk1.trN c2 (fun b hb e => by show cO (F b).1; rw [← hf1 b hb, e]; exact ⟨by decide, by decide⟩)⟩
      have cst : ∀ a d : Nat, a ≤ nc_inC kz Q n + 3 → d ≤ nc_inZ kz Q n + 18 → a ≤ (sp_win2 t p x F X kz Q).2.1 [.inr (.inr (some t)), .inl p, .inl x] S ∧ d ≤ (sp_win2 t p x F X kz Q).2.2.1 [.inr (.inr (some t)), .inl p, .inl x] S := fun a d h1 h2 => ⟨by show a ≤ nc_i (∃ n i, n < 4 ∧ p = nI n ∧ i ≤ visN (Q.G n) (Q.T n) ∧ x = nI i) (nc_inC kz Q p.toNatClampNeg) + 3; rw [nc_it ⟨n, i, hn, hpn, hi, exi⟩, cn]; exact h1, by show d ≤ nc_i (∃ n i, n < 4 ∧ p = nI n ∧ i ≤ visN (Q.G n) (Q.T n) ∧ x = nI i) (nc_inZ kz Q p.toNatClampNeg) + 18; rw [nc_it ⟨n, i, hn, hpn, hi, exi⟩, cn]; exact h2⟩
      refine ⟨hz.1.1.1, rfl, pa_i r0 ⟨ht.1.1, by omega, by omega, fun v0 => ⟨fun hb => ⟨rfl, trivial, ?_, cst _ _ (by omega) (by omega)⟩, fun hb => ⟨?_, cst _ _ (by omega) (by omega)⟩⟩, fun v0 => ⟨?_, cst _ _ (by omega) (by omega)⟩⟩⟩
      · obtain ⟨-, L, e1, e2, e3, e4, e5⟩ := hc.resolve_right (fun q => hb q.1)
        exact ⟨_, rfl, n, i, L, Q1, X1, kz1, hn, hpn, hi, exi, e1, e3, e4, e5, wq⟩
      · obtain ⟨-, rfl, rfl, rfl, hv⟩ := hc.resolve_left (fun q => absurd (q.1.symm.trans hb) (by decide))
        obtain ⟨L, e1, e2, e3, e4⟩ := hv.resolve_left (fun q => Int32.not_lt.2 v0 q.2)
        exact Or.inr (Or.inr ⟨rfl, ⟨n, i, L, hn, hpn, hi, exi, e1, e3⟩, wq⟩)
      · rcases hc with ⟨-, L, e1, e2, e3, e4, e5⟩ | ⟨-, rfl, rfl, rfl, hv⟩
        · rw [e4] at v0; exact absurd (nI_pos' (by omega)) v0
        · obtain ⟨e1, e2⟩ := hv.resolve_right (fun ⟨L, e1, e2, e3, e4⟩ => by rw [e4] at v0; exact absurd (nI_pos' (by omega)) v0)
          exact Or.inr (Or.inl ⟨rfl, ⟨n, i, hn, hpn, hi, exi⟩, e1, wq⟩)
theorem u_win2 (l : Launch) (hlt : l.stackTraces = false) : UsX l yX11_insert (Cond.code yX11_insert cX11_insert 6 (some .int)) (some .int) 10 245 12 T_win2 := by
  intro Rc Rs av S cs sl K Kx h
  unfold T_win2 at h
  split at h
  · rename_i t_o p x
    obtain ⟨t, rfl, h_1⟩ := pa_of h
    obtain ⟨F, X, kz, Q, hp, hc, hs, hk, hx0, hx1, hx2⟩ := h_1
    refine ⟨(sp_win2 t p x F X kz Q), c_win2 l hlt t p x F X kz Q, fun _ _ h9 => ⟨_, _, h9.1, h9.2.1.choose_spec.1.1.1⟩, ⟨rfl, hp⟩, hc, hs, fun v9 S' h8 => by
      obtain ⟨v8, h7, h8⟩ := h8
      cases h7
      exact hk _ _ h8, fun _ _ q => by
      rcases q with ⟨rfl, q⟩ | ⟨rfl, q⟩ | ⟨rfl, q⟩
      · obtain ⟨q, rfl⟩ := q
        exact hx0 q
      · exact hx1 _ q
      · exact hx2 _ q⟩
  · exact h.elim
def T_wun2 : TR := fun Rc Rs av S cs sl K Kx => match av with
  | [.inr (.inr t_o), .inl p] => pa t_o fun t => (∃ (F : Nat → Nat × Nat) (X : Nat → GX) (kz : Nat → Nat) (Q : Ab), (WT S F t X kz Q ∧ ∀ n, n < 4 → EdW (Q.G n) (Q.T n) n (Q.E n)) ∧ cs + (nc_i (∃ n, n < 4 ∧ p = nI n) (nc_unC Q p.toNatClampNeg) + 2) ≤ Rc ∧ sl + (nc_i (∃ n, n < 4 ∧ p = nI n) (nc_unZ Q p.toNatClampNeg) + 12) ≤ Rs ∧ ((∀ (v : Int32) (S' : MM), (∃ (n : Nat) (e : Nat × Nat) (Q1 : Ab) (X1 : Nat → GX), n < 4 ∧ p = nI n ∧ (Q.E n).getLast? = some e ∧ roP (Q.G n) n (cuN (Q.G n) e.1 e.2) ∧ v = nI (cuN (Q.G n) e.1 e.2) ∧ undR Q X n e Q1 X1 ∧ wtQ S S' F t X1 kz Q1) → K (some (.inl v)) S' (cs + (nc_i (∃ n, n < 4 ∧ p = nI n) (nc_unC Q p.toNatClampNeg) + 2)) (sl + (nc_i (∃ n, n < 4 ∧ p = nI n) (nc_unZ Q p.toNatClampNeg) + 12))) ∧ ((np 4 p) → Kx 1 S (cs + (nc_i (∃ n, n < 4 ∧ p = nI n) (nc_unC Q p.toNatClampNeg) + 2)) (sl + (nc_i (∃ n, n < 4 ∧ p = nI n) (nc_unZ Q p.toNatClampNeg) + 12))) ∧ ((∃ n, n < 4 ∧ p = nI n ∧ Q.E n = []) → Kx 2 S (cs + (nc_i (∃ n, n < 4 ∧ p = nI n) (nc_unC Q p.toNatClampNeg) + 2)) (sl + (nc_i (∃ n, n < 4 ∧ p = nI n) (nc_unZ Q p.toNatClampNeg) + 12))) ∧ ((∃ (n : Nat) (e : Nat × Nat), n < 4 ∧ p = nI n ∧ (Q.E n).getLast? = some e ∧ ¬ roP (Q.G n) n (cuN (Q.G n) e.1 e.2)) → Kx 0 S (cs + (nc_i (∃ n, n < 4 ∧ p = nI n) (nc_unC Q p.toNatClampNeg) + 2)) (sl + (nc_i (∃ n, n < 4 ∧ p = nI n) (nc_unZ Q p.toNatClampNeg) + 12)))))
  | _ => False
noncomputable def sp_wun2 (t : Nat) (p : Int32) (F : Nat → Nat × Nat) (X : Nat → GX) (kz : Nat → Nat) (Q : Ab) : Sp := (fun av S => av = [.inr (.inr (some t)), .inl p] ∧ (WT S F t X kz Q ∧ ∀ n, n < 4 → EdW (Q.G n) (Q.T n) n (Q.E n)), fun _ S => nc_i (∃ n, n < 4 ∧ p = nI n) (nc_unC Q p.toNatClampNeg) + 2, fun _ S => nc_i (∃ n, n < 4 ∧ p = nI n) (nc_unZ Q p.toNatClampNeg) + 12, fun _ S rv S' => ∃ v, rv = (some (.inl v)) ∧ (∃ (n : Nat) (e : Nat × Nat) (Q1 : Ab) (X1 : Nat → GX), n < 4 ∧ p = nI n ∧ (Q.E n).getLast? = some e ∧ roP (Q.G n) n (cuN (Q.G n) e.1 e.2) ∧ v = nI (cuN (Q.G n) e.1 e.2) ∧ undR Q X n e Q1 X1 ∧ wtQ S S' F t X1 kz Q1), fun _ S E S' => (E = 1 ∧ (np 4 p) ∧ S' = S) ∨ (E = 2 ∧ (∃ n, n < 4 ∧ p = nI n ∧ Q.E n = []) ∧ S' = S) ∨ (E = 0 ∧ (∃ (n : Nat) (e : Nat × Nat), n < 4 ∧ p = nI n ∧ (Q.E n).getLast? = some e ∧ ¬ roP (Q.G n) n (cuN (Q.G n) e.1 e.2)) ∧ S' = S))
set_option maxRecDepth 100000 in
set_option maxHeartbeats 2000000 in
theorem c_wun2 (l : Launch) (hlt : l.stackTraces = false) : ∀ (t : Nat) (p : Int32) (F : Nat → Nat × Nat) (X : Nat → GX) (kz : Nat → Nat) (Q : Ab), CtX l yX11_undo (Cond.code yX11_undo cX11_undo 5 (some .int)) (some .int) 11 263 (sp_wun2 t p F X kz Q) := by
  intro t p F X kz Q
  refine CtX.of hlt (fX11, nX11, aX11, iX11, lX11, [(108, 0, 2, 3, T_wpo), (143, 0, 1, 3, T_ple), (150, 0, 2, 1, T_pcu), (125, 0, 2, 1, T_phr), (154, 0, 2, 0, T_prv)], qX11, gX11, thX11) false tX11_undo (fun _ _ _ => none) (by decide) (by decide) kX11_undo ⟨_, _, rfl⟩ fX11_ok nX11_ok aX11_ok iX11_ok lX11_ok (fun p e R s m args below meth c Q D cy z r A C hR1 hR2 => List.forall_mem_cons.mpr ⟨cOK_use (fun _ _ _ _ _ _ _ _ h => let ⟨sp, h1, h2, h3⟩ := u_wpo l hlt _ _ _ _ _ _ _ _ h; ⟨sp, cOKx_V C h1 vX11_undo_108 ⟨by decide, by decide, by decide +kernel⟩ ⟨by rw [hR1]; decide, by rw [hR2]; decide⟩ (k := 12) (T := TX11) (N := 15) rfl (by decide) h2, h3⟩), List.forall_mem_cons.mpr ⟨cOK_use (fun _ _ _ _ _ _ _ _ h => let ⟨sp, h1, h2, h3⟩ := u_ple l _ _ _ _ _ _ _ _ h; ⟨sp, cOK_V C h1 vX11_undo_143 ⟨by decide, by decide, by decide +kernel⟩ ⟨by rw [hR1]; decide, by rw [hR2]; decide⟩ (k := 11) (T := TX10) (N := 6) rfl (by decide) h2, h3⟩), List.forall_mem_cons.mpr ⟨cOK_use (fun _ _ _ _ _ _ _ _ h => let ⟨sp, h1, h2, h3⟩ := u_pcu l _ _ _ _ _ _ _ _ h; ⟨sp, cOK_V C h1 vX11_undo_150 ⟨by decide, by decide, by decide +kernel⟩ ⟨by rw [hR1]; decide, by rw [hR2]; decide⟩ (k := 11) (T := TX10) (N := 6) rfl (by decide) h2, h3⟩), List.forall_mem_cons.mpr ⟨cOK_use (fun _ _ _ _ _ _ _ _ h => let ⟨sp, h1, h2, h3⟩ := u_phr l _ _ _ _ _ _ _ _ h; ⟨sp, cOK_V C h1 vX11_undo_125 ⟨by decide, by decide, by decide +kernel⟩ ⟨by rw [hR1]; decide, by rw [hR2]; decide⟩ (k := 11) (T := TX10) (N := 6) rfl (by decide) h2, h3⟩), List.forall_mem_cons.mpr ⟨cOK_use (fun _ _ _ _ _ _ _ _ h => let ⟨sp, h1, h2, h3⟩ := u_prv l _ _ _ _ _ _ _ _ h; ⟨sp, cOK_V C h1 vX11_undo_154 ⟨by decide, by decide, by decide +kernel⟩ ⟨by rw [hR1]; decide, by rw [hR2]; decide⟩ (k := 11) (T := TX10) (N := 6) rfl (by decide) h2, h3⟩), fun _ h => absurd h List.not_mem_nil⟩⟩⟩⟩⟩) qX11_ok gX11_ok (fun q hq => ⟨thX11_ok q hq, by decide, by decide⟩) ?_ ?_
  · rintro _ S ⟨rfl, hp⟩
    refine ⟨Nat.le_of_ble_eq_true rfl, 300, ?_⟩
    show (0 = 0 ∧ (∃ (F_1 : Nat → Nat × Nat) (z_2 : Nat → Nat), (SfA S F_1 t z_2) ∧ 0 + 1 ≤ nc_i (∃ n, n < 4 ∧ p = nI n) (nc_unC Q p.toNatClampNeg) + 2 ∧ 0 + 6 ≤ nc_i (∃ n, n < 4 ∧ p = nI n) (nc_unZ Q p.toNatClampNeg) + 12 ∧ ((∀ (x_4 : Option Nat) (S_3 : MM), (S_3 = S ∧ ∃ n, n < 4 ∧ p = nI n ∧ x_4 = some (z_2 (30 + n))) → (0 = 0 ∧ ((pa x_4 fun a_5 => (∃ (a_6 d_7 c_8 : Nat) (n_9 : Nat) (ea_10 : Nat → Nat), (isO S_3 11 a_5 ∧ mR S_3 1102 a_5 = some a_6 ∧ AL S_3 a_6 d_7 c_8 4 ((List.range n_9).map ea_10)) ∧ 0 + 1 ≤ nc_i (∃ n, n < 4 ∧ p = nI n) (nc_unC Q p.toNatClampNeg) + 2 ∧ 0 + 6 ≤ nc_i (∃ n, n < 4 ∧ p = nI n) (nc_unZ Q p.toNatClampNeg) + 12 ∧ (((∀ w_12, (edO n_9 ea_10) = some w_12 → (0 = 0 ∧ ((pa x_4 fun a_13 => ((pa (edO n_9 ea_10) fun a_14 => (∃ (F_15 : Nat → Nat × Nat) (i_16 : Nat) (A_17 : Nat → Nat) (X_18 : GX) (G_19 : Gr) (T_20 : Tr) (H_21 : List Nat) (W_22 : Nat → Nat) (fi_23 sz_24 : Nat), (isO S_3 11 a_13 ∧ mR S_3 1101 a_13 = some (A_17 0) ∧ GI S_3 F_15 i_16 A_17 X_18 G_19 T_20 H_21 W_22 ∧ isO S_3 4 a_14 ∧ mI S_3 400 a_14 = nI fi_23 ∧ mI S_3 401 a_14 = nI sz_24 ∧ fi_23 + sz_24 ≤ G_19.n) ∧ 0 + 1 ≤ nc_i (∃ n, n < 4 ∧ p = nI n) (nc_unC Q p.toNatClampNeg) + 2 ∧ 0 + 6 ≤ nc_i (∃ n, n < 4 ∧ p = nI n) (nc_unZ Q p.toNatClampNeg) + 12 ∧ ((0 = 0 ∧ ((pa x_4 fun a_26 => (∃ (n_27 : Nat), nI (cuN G_19 fi_23 sz_24) = nI n_27 ∧ (∃ (p_28 : Nat) (F_29 : Nat → Nat × Nat) (i_30 : Nat) (A_31 : Nat → Nat) (X_32 : GX) (G_33 : Gr) (T_34 : Tr) (H_35 : List Nat) (W_36 : Nat → Nat), (isO S_3 11 a_26 ∧ mI S_3 1100 a_26 = nI p_28 ∧ mR S_3 1101 a_26 = some (A_31 0) ∧ GI S_3 F_29 i_30 A_31 X_32 G_33 T_34 H_35 W_36 ∧ p_28 < 256 ∧ n_27 ≤ 1000000) ∧ 0 + 1 ≤ nc_i (∃ n, n < 4 ∧ p = nI n) (nc_unC Q p.toNatClampNeg) + 2 ∧ 0 + 6 ≤ nc_i (∃ n, n < 4 ∧ p = nI n) (nc_unZ Q p.toNatClampNeg) + 12 ∧ (((¬ (tf (n_27 = 0 ∨ (G_33.n + n_27 ≤ 8192 ∧ (hasAg G_33 p_28 ∨ G_33.m < 16)))) = 0 → (0 = 0 ∧ ((pa x_4 fun a_38 => ((pa (edO n_9 ea_10) fun a_39 => (∃ (F_40 : Nat → Nat × Nat) (i_41 jo_42 r_43 p_44 s_45 : Nat) (A_46 : Nat → Nat) (X_47 : GX) (G_48 : Gr) (T_49 : Tr) (H_50 : List Nat) (W_51 : Nat → Nat) (a_52 d_53 c_54 : Nat) (E_55 : List (Nat × Nat)) (ea_56 : Nat → Nat) (fi_57 sz_58 : Nat), (rvR S_3 F_40 i_41 jo_42 a_38 r_43 p_44 s_45 A_46 X_47 G_48 T_49 H_50 W_51 a_52 d_53 c_54 E_55 ea_56 a_39 fi_57 sz_58) ∧ 0 + 1 + (runC G_48 s_45 (cuN G_48 fi_57 sz_58)) ≤ nc_i (∃ n, n < 4 ∧ p = nI n) (nc_unC Q p.toNatClampNeg) + 2 ∧ 0 + 6 + (runZ G_48 s_45 (cuN G_48 fi_57 sz_58)) ≤ nc_i (∃ n, n < 4 ∧ p = nI n) (nc_unZ Q p.toNatClampNeg) + 12 ∧ (∀ (S_59 : MM), (rvQ S_3 S_59 F_40 i_41 jo_42 a_38 r_43 p_44 s_45 A_46 X_47 G_48 T_49 a_52 d_53 c_54 E_55 ea_56 fi_57 sz_58) → (([] : List MV) = [] ∧ mret (some .int) (sp_wun2 t p F X kz Q) [.inr (.inr (some t)), .inl p] S (some (.inl (nI (cuN G_19 fi_23 sz_24)))) S_59 (0 + 1 + (runC G_48 s_45 (cuN G_48 fi_57 sz_58))) (0 + 6 + (runZ G_48 s_45 (cuN G_48 fi_57 sz_58)))))))))))) ∧ ((tf (n_27 = 0 ∨ (G_33.n + n_27 ≤ 8192 ∧ (hasAg G_33 p_28 ∨ G_33.m < 16)))) = 0 → (mthr (sp_wun2 t p F X kz Q) [.inr (.inr (some t)), .inl p] S 0 S_3 (0 + 1 + 1) (0 + 6 + 6)))))))))))))))))) ∧ ((edO n_9 ea_10) = none → (mthr (sp_wun2 t p F X kz Q) [.inr (.inr (some t)), .inl p] S 2 S_3 (0 + 1 + 1) (0 + 6 + 6)))))))))) ∧ ((np 4 p) → mthr (sp_wun2 t p F X kz Q) [.inr (.inr (some t)), .inl p] S 1 S (0 + 1) (0 + 6)))))
    obtain ⟨⟨z, hz⟩, hE⟩ := hp
    refine ⟨rfl, F, z, hz.1.1, by omega, by omega, fun v S3 h => ?_, fun h => ⟨Or.inl ⟨rfl, h, rfl⟩, by show _ ≤ nc_i (∃ n, n < 4 ∧ p = nI n) (nc_unC Q p.toNatClampNeg) + 2; omega, by show _ ≤ nc_i (∃ n, n < 4 ∧ p = nI n) (nc_unZ Q p.toNatClampNeg) + 12; omega⟩⟩
    obtain ⟨rfl, n, hn, hpn, rfl⟩ := h
    have cn : p.toNatClampNeg = n := by rw [hpn]; exact nI_clamp (by omega)
    rw [nc_it (P := ∃ n, n < 4 ∧ p = nI n) ⟨n, hn, hpn⟩, nc_it (P := ∃ n, n < 4 ∧ p = nI n) ⟨n, hn, hpn⟩, cn]
    obtain ⟨A, H, W, r, a', d, ea, kn, kr, cu, hP⟩ := hz.2.1 n hn
    have g := hP.gi
    have cst : ∀ a d : Nat, a ≤ nc_unC Q n + 2 → d ≤ nc_unZ Q n + 12 → a ≤ (sp_wun2 t p F X kz Q).2.1 [.inr (.inr (some t)), .inl p] S3 ∧ d ≤ (sp_wun2 t p F X kz Q).2.2.1 [.inr (.inr (some t)), .inl p] S3 := fun a d h1 h2 => ⟨by show a ≤ nc_i (∃ n, n < 4 ∧ p = nI n) (nc_unC Q p.toNatClampNeg) + 2; rw [nc_it ⟨n, hn, hpn⟩, cn]; exact h1, by show d ≤ nc_i (∃ n, n < 4 ∧ p = nI n) (nc_unZ Q p.toNatClampNeg) + 12; rw [nc_it ⟨n, hn, hpn⟩, cn]; exact h2⟩
    refine ⟨rfl, pa_i rfl ⟨a', d, kz (30 + n), (Q.E n).length, ea, ⟨hP.1.1, hP.2.1, hP.2.2.1.1⟩, by omega, by omega, fun w hw => ?_, fun hw => ⟨Or.inr (Or.inl ⟨rfl, ⟨n, hn, hpn, ?_⟩, rfl⟩), cst _ _ (by omega) (by omega)⟩⟩⟩
    · have hl : (Q.E n).length ≠ 0 := fun e => by unfold edO at hw; rw [if_pos e] at hw; cases hw
      obtain ⟨e, he⟩ : ∃ e, (Q.E n).getLast? = some e := by
        cases e9 : (Q.E n).getLast? with
        | none => rw [List.getLast?_eq_none_iff] at e9; exact absurd (by rw [e9]; rfl) hl
        | some e => exact ⟨e, rfl⟩
      have he2 : (Q.E n)[(Q.E n).length - 1]? = some e := by rw [← List.getLast?_eq_getElem?]; exact he
      have hw2 : edO (Q.E n).length ea = some (ea ((Q.E n).length - 1)) := by unfold edO; rw [if_neg hl]
      have emem : e ∈ Q.E n := List.mem_of_getElem? he2
      obtain ⟨e1, e2, e3, e4⟩ := hE n hn e emem
      have hg : (Q.E n).getD ((Q.E n).length - 1) (0, 0) = e := by rw [List.getD_eq_getElem?_getD, he2]; rfl
      obtain ⟨v1, v2, v3, v4⟩ := hP.2.2.1.2.2.2 ((Q.E n).length - 1) (by omega)
      rw [hg] at v3 v4
      have cu8 := cuN_le (Q.G n) e.1 e.2
      have gn := g.ok.hn
      have eC : nc_unC Q n = nc_if (roP (Q.G n) n (cuN (Q.G n) e.1 e.2)) (runC (Q.G n) (owN (Q.G n) n) (cuN (Q.G n) e.1 e.2)) 0 := by unfold nc_unC; rw [he]
      have eZ : nc_unZ Q n = nc_if (roP (Q.G n) n (cuN (Q.G n) e.1 e.2)) (runZ (Q.G n) (owN (Q.G n) n) (cuN (Q.G n) e.1 e.2)) 0 := by unfold nc_unZ; rw [he]
      rw [hw2]
      refine ⟨rfl, pa_i rfl (pa_i rfl ⟨F, n + 1, A, X n, Q.G n, Q.T n, H, W, e.1, e.2, ⟨hP.1.1, hP.1.2.2.2.1, g, v1, v3, v4, e2⟩, by omega, by omega, rfl, pa_i rfl ⟨cuN (Q.G n) e.1 e.2, rfl, n, F, n + 1, A, X n, Q.G n, Q.T n, H, W, ⟨hP.1.1, hP.1.2.2.1, hP.1.2.2.2.1, g, by omega, by omega⟩, by omega, by omega, fun q0 => ?_, fun q0 => ⟨Or.inr (Or.inr ⟨rfl, ⟨n, e, hn, hpn, he, fun w => ?_⟩, rfl⟩), cst _ _ (by omega) (by omega)⟩⟩⟩)⟩
      · have yr : roP (Q.G n) n (cuN (Q.G n) e.1 e.2) := Classical.byContradiction (fun w => q0 (tf_f w))
        have eC2 := eC.trans (nc_t yr)
        have eZ2 := eZ.trans (nc_t yr)
        have h8 : (Q.G n).n + cuN (Q.G n) e.1 e.2 ≤ 8192 := by
          rcases yr with w | w
          · omega
          · exact w.1
        rw [eC2, eZ2]
        refine ⟨rfl, pa_i rfl (pa_i rfl ⟨F, n + 1, n + 11, r, n, owN (Q.G n) n, A, X n, Q.G n, Q.T n, H, W, a', d, kz (30 + n), Q.E n, ea, e.1, e.2, ⟨hP.1, hP.2.1, hP.2.2.1, by omega, owN_ok (Or.inl e4), by omega, rfl, he2, e1, e2, h8, e3⟩, by omega, by omega, fun S4 h4 => ?_⟩)⟩
        obtain ⟨F', A', X', G', T', H', W', w1, w2, w3, w4, w5, w6, w7, w8⟩ := h4
        have hle : (Q.G n).n ≤ G'.n := UndR.le w6 (owN_ok (Or.inl e4))
        obtain ⟨g1, g2⟩ := hz.wrote hn hP w1 w2 w3 w4 w5 w8 hle
        have ek : upF kz (30 + n) (kz (30 + n)) = kz := by
          funext k
          by_cases c : k = 30 + n
          · rw [c, upF_s]
          · rw [upF_o c]
        rw [ek] at g1
        exact ⟨rfl, trivial, ⟨_, rfl, n, e, _, _, hn, hpn, he, yr, rfl, ⟨G', T', X', w6, rfl, rfl⟩, F', ⟨z, g1⟩, w4, g2⟩, cst _ _ (by rw [eC2]; omega) (by rw [eZ2]; omega)⟩
      · rw [tf_t (show cuN (Q.G n) e.1 e.2 = 0 ∨ _ from w)] at q0; exact absurd q0 (by decide)
    · unfold edO at hw
      by_cases c : (Q.E n).length = 0
      · exact List.eq_nil_of_length_eq_zero c
      · rw [if_neg c] at hw; cases hw
  · exact fun _ _ _ _ _ h => by cases h
theorem u_wun2 (l : Launch) (hlt : l.stackTraces = false) : UsX l yX11_undo (Cond.code yX11_undo cX11_undo 5 (some .int)) (some .int) 11 263 12 T_wun2 := by
  intro Rc Rs av S cs sl K Kx h
  unfold T_wun2 at h
  split at h
  · rename_i t_o p
    obtain ⟨t, rfl, h_1⟩ := pa_of h
    obtain ⟨F, X, kz, Q, hp, hc, hs, hk, hx0, hx1, hx2⟩ := h_1
    refine ⟨(sp_wun2 t p F X kz Q), c_wun2 l hlt t p F X kz Q, fun _ _ h9 => ⟨_, _, h9.1, h9.2.1.choose_spec.1.1.1⟩, ⟨rfl, hp⟩, hc, hs, fun v9 S' h8 => by
      obtain ⟨v8, h7, h8⟩ := h8
      cases h7
      exact hk _ _ h8, fun _ _ q => by
      rcases q with ⟨rfl, q⟩ | ⟨rfl, q⟩ | ⟨rfl, q⟩
      · obtain ⟨q, rfl⟩ := q
        exact hx0 q
      · obtain ⟨q, rfl⟩ := q
        exact hx1 q
      · obtain ⟨q, rfl⟩ := q
        exact hx2 q⟩
  · exact h.elim
def T_wdl2 : TR := fun Rc Rs av S cs sl K Kx => match av with
  | [.inr (.inr t_o), .inl p, .inl x, .inl y] => pa t_o fun t => (∃ (F : Nat → Nat × Nat) (X : Nat → GX) (kz : Nat → Nat) (Q : Ab), (WT S F t X kz Q ∧ AbE kz) ∧ cs + (nc_i (∃ n i m, n < 4 ∧ p = nI n ∧ dlOk Q n x y i m) (nc_dlC kz Q p.toNatClampNeg y.toNatClampNeg) + 3) ≤ Rc ∧ sl + (nc_i (∃ n i m, n < 4 ∧ p = nI n ∧ dlOk Q n x y i m) (nc_dlZ kz Q p.toNatClampNeg y.toNatClampNeg) + 18) ≤ Rs ∧ ((∀ (v : Int32) (S' : MM), (∃ (n i m : Nat) (Q1 : Ab) (X1 : Nat → GX) (kz1 : Nat → Nat), n < 4 ∧ p = nI n ∧ dlOk Q n x y i m ∧ roP (Q.G n) n m ∧ opR Q X kz n (List.replicate m (none, i)) Q1 X1 kz1 ∧ v = nI (visN (Q1.G n) (Q1.T n)) ∧ wtQ S S' F t X1 kz1 Q1) → K (some (.inl v)) S' (cs + (nc_i (∃ n i m, n < 4 ∧ p = nI n ∧ dlOk Q n x y i m) (nc_dlC kz Q p.toNatClampNeg y.toNatClampNeg) + 3)) (sl + (nc_i (∃ n i m, n < 4 ∧ p = nI n ∧ dlOk Q n x y i m) (nc_dlZ kz Q p.toNatClampNeg y.toNatClampNeg) + 18))) ∧ ((np 4 p ∨ ∃ n, n < 4 ∧ p = nI n ∧ ¬ ∃ i m, dlOk Q n x y i m) → Kx 1 S (cs + (nc_i (∃ n i m, n < 4 ∧ p = nI n ∧ dlOk Q n x y i m) (nc_dlC kz Q p.toNatClampNeg y.toNatClampNeg) + 3)) (sl + (nc_i (∃ n i m, n < 4 ∧ p = nI n ∧ dlOk Q n x y i m) (nc_dlZ kz Q p.toNatClampNeg y.toNatClampNeg) + 18))) ∧ ((∃ n i m, n < 4 ∧ p = nI n ∧ dlOk Q n x y i m ∧ ¬ roP (Q.G n) n m) → Kx 0 S (cs + (nc_i (∃ n i m, n < 4 ∧ p = nI n ∧ dlOk Q n x y i m) (nc_dlC kz Q p.toNatClampNeg y.toNatClampNeg) + 3)) (sl + (nc_i (∃ n i m, n < 4 ∧ p = nI n ∧ dlOk Q n x y i m) (nc_dlZ kz Q p.toNatClampNeg y.toNatClampNeg) + 18)))))
  | _ => False
noncomputable def sp_wdl2 (t : Nat) (p : Int32) (x : Int32) (y : Int32) (F : Nat → Nat × Nat) (X : Nat → GX) (kz : Nat → Nat) (Q : Ab) : Sp := (fun av S => av = [.inr (.inr (some t)), .inl p, .inl x, .inl y] ∧ (WT S F t X kz Q ∧ AbE kz), fun _ S => nc_i (∃ n i m, n < 4 ∧ p = nI n ∧ dlOk Q n x y i m) (nc_dlC kz Q p.toNatClampNeg y.toNatClampNeg) + 3, fun _ S => nc_i (∃ n i m, n < 4 ∧ p = nI n ∧ dlOk Q n x y i m) (nc_dlZ kz Q p.toNatClampNeg y.toNatClampNeg) + 18, fun _ S rv S' => ∃ v, rv = (some (.inl v)) ∧ (∃ (n i m : Nat) (Q1 : Ab) (X1 : Nat → GX) (kz1 : Nat → Nat), n < 4 ∧ p = nI n ∧ dlOk Q n x y i m ∧ roP (Q.G n) n m ∧ opR Q X kz n (List.replicate m (none, i)) Q1 X1 kz1 ∧ v = nI (visN (Q1.G n) (Q1.T n)) ∧ wtQ S S' F t X1 kz1 Q1), fun _ S E S' => (E = 1 ∧ (np 4 p ∨ ∃ n, n < 4 ∧ p = nI n ∧ ¬ ∃ i m, dlOk Q n x y i m) ∧ S' = S) ∨ (E = 0 ∧ (∃ n i m, n < 4 ∧ p = nI n ∧ dlOk Q n x y i m ∧ ¬ roP (Q.G n) n m) ∧ S' = S))
set_option maxRecDepth 100000 in
set_option maxHeartbeats 2000000 in
theorem c_wdl2 (l : Launch) (hlt : l.stackTraces = false) : ∀ (t : Nat) (p : Int32) (x : Int32) (y : Int32) (F : Nat → Nat × Nat) (X : Nat → GX) (kz : Nat → Nat) (Q : Ab), CtX l yX11_delete (Cond.code yX11_delete cX11_delete 5 (some .int)) (some .int) 10 242 (sp_wdl2 t p x y F X kz Q) := by
  intro t p x y F X kz Q
  refine CtX.of hlt (fX11, nX11, aX11, iX11, lX11, [(108, 0, 2, 3, T_wpo), (104, 2, 1, 0, T_wrq), (125, 0, 2, 1, T_phr), (139, 0, 3, 0, T_pdt)], qX11, gX11, thX11) false tX11_delete (fun _ S => look [(35, ([2,3,4], I_dl t p x y F X kz Q S))]) (by decide) (by decide) kX11_delete ⟨_, _, rfl⟩ fX11_ok nX11_ok aX11_ok iX11_ok lX11_ok (fun p e R s m args below meth c Q D cy z r A C hR1 hR2 => List.forall_mem_cons.mpr ⟨cOK_use (fun _ _ _ _ _ _ _ _ h => let ⟨sp, h1, h2, h3⟩ := u_wpo l hlt _ _ _ _ _ _ _ _ h; ⟨sp, cOKx_V C h1 vX11_delete_108 ⟨by decide, by decide, by decide +kernel⟩ ⟨by rw [hR1]; decide, by rw [hR2]; decide⟩ (k := 12) (T := TX11) (N := 15) rfl (by decide) h2, h3⟩), List.forall_mem_cons.mpr ⟨cOK_use (fun _ _ _ _ _ _ _ _ h => let ⟨sp, h1, _, h3⟩ := u_wrq l hlt _ _ _ _ _ _ _ _ h; ⟨sp, cOKx_S C h1 vX11_delete_104 ⟨by decide, by decide, by decide +kernel⟩ ⟨by rw [hR1]; decide, by rw [hR2]; decide⟩, h3⟩), List.forall_mem_cons.mpr ⟨cOK_use (fun _ _ _ _ _ _ _ _ h => let ⟨sp, h1, h2, h3⟩ := u_phr l _ _ _ _ _ _ _ _ h; ⟨sp, cOK_V C h1 vX11_delete_125 ⟨by decide, by decide, by decide +kernel⟩ ⟨by rw [hR1]; decide, by rw [hR2]; decide⟩ (k := 11) (T := TX10) (N := 6) rfl (by decide) h2, h3⟩), List.forall_mem_cons.mpr ⟨cOK_use (fun _ _ _ _ _ _ _ _ h => let ⟨sp, h1, h2, h3⟩ := u_pdt l _ _ _ _ _ _ _ _ h; ⟨sp, cOK_V C h1 vX11_delete_139 ⟨by decide, by decide, by decide +kernel⟩ ⟨by rw [hR1]; decide, by rw [hR2]; decide⟩ (k := 11) (T := TX10) (N := 6) rfl (by decide) h2, h3⟩), fun _ h => absurd h List.not_mem_nil⟩⟩⟩⟩) qX11_ok gX11_ok (fun q hq => ⟨thX11_ok q hq, by decide, by decide⟩) ?_ ?_
  · rintro _ S ⟨rfl, hp⟩
    refine ⟨Nat.le_of_ble_eq_true rfl, 300, ?_⟩
    show (0 = 0 ∧ (∃ (F_1 : Nat → Nat × Nat) (z_2 : Nat → Nat), (SfA S F_1 t z_2) ∧ 0 + 1 ≤ nc_i (∃ n i m, n < 4 ∧ p = nI n ∧ dlOk Q n x y i m) (nc_dlC kz Q p.toNatClampNeg y.toNatClampNeg) + 3 ∧ 0 + 6 ≤ nc_i (∃ n i m, n < 4 ∧ p = nI n ∧ dlOk Q n x y i m) (nc_dlZ kz Q p.toNatClampNeg y.toNatClampNeg) + 18 ∧ ((∀ (x_4 : Option Nat) (S_3 : MM), (S_3 = S ∧ ∃ n, n < 4 ∧ p = nI n ∧ x_4 = some (z_2 (30 + n))) → ((y < (1 : Int32) → (∃ k1, I_dl t p x y F X kz Q S k1 [(2, .inl x), (3, .inl y), (4, .inr (.inr x_4))] [.inl (0 : Int32)] S_3 (0 + 1) (0 + 6))) ∧ (¬ y < (1 : Int32) → ((x < 0 → (∃ k1, I_dl t p x y F X kz Q S k1 [(2, .inl x), (3, .inl y), (4, .inr (.inr x_4))] [.inl (0 : Int32)] S_3 (0 + 1) (0 + 6))) ∧ (¬ x < 0 → (pa x_4 fun a_5 => isO S_3 11 a_5 ∧ (pa (mR S_3 1101 a_5) fun a_6 => isO S_3 6 a_6 ∧ ((((mI S_3 605 a_6) - y) < x → (∃ k1, I_dl t p x y F X kz Q S k1 [(2, .inl x), (3, .inl y), (4, .inr (.inr x_4))] [.inl (0 : Int32)] S_3 (0 + 1) (0 + 6))) ∧ (¬ ((mI S_3 605 a_6) - y) < x → (∃ k1, I_dl t p x y F X kz Q S k1 [(2, .inl x), (3, .inl y), (4, .inr (.inr x_4))] [.inl (1 : Int32)] S_3 (0 + 1) (0 + 6))))))))))) ∧ ((np 4 p) → mthr (sp_wdl2 t p x y F X kz Q) [.inr (.inr (some t)), .inl p, .inl x, .inl y] S 1 S (0 + 1) (0 + 6)))))
    obtain ⟨⟨z, hz⟩, hE⟩ := hp
    refine ⟨rfl, F, z, hz.1.1, by omega, by omega, fun v S3 h => ?_, fun h => ⟨Or.inl ⟨rfl, Or.inl h, rfl⟩, by show _ ≤ nc_i (∃ n i m, n < 4 ∧ p = nI n ∧ dlOk Q n x y i m) (nc_dlC kz Q p.toNatClampNeg y.toNatClampNeg) + 3; omega, by show _ ≤ nc_i (∃ n i m, n < 4 ∧ p = nI n ∧ dlOk Q n x y i m) (nc_dlZ kz Q p.toNatClampNeg y.toNatClampNeg) + 18; omega⟩⟩
    obtain ⟨rfl, n, hn, rfl, rfl⟩ := h
    obtain ⟨A, H, W, r, a', d, ea, kn, kr, cu, hP⟩ := hz.2.1 n hn
    have g := hP.gi
    have r1 : mR S3 1101 (z (30 + n)) = some (A 0) := hP.1.2.2.2.1
    have m5 : mI S3 605 (A 0) = nI (visN (Q.G n) (Q.T n)) := g 6
    have vl := g.vl
    have bad : (¬ ∃ i m, dlOk Q n x y i m) → ∃ k1, I_dl t (nI n) x y F X kz Q S3 k1 [(2, .inl x), (3, .inl y), (4, .inr (.inr (some (z (30 + n)))))] [.inl 0] S3 (0 + 1) (0 + 6) := fun q => ⟨0, 0, n, z, rfl, hz, hn, rfl, Or.inr ⟨rfl, q⟩, rfl, rfl, rfl, rfl, rfl⟩
    refine ⟨fun q => bad (fun ⟨i, m, o1, o2, o3, o4⟩ => ?_), fun q1 => ⟨fun q => bad (fun ⟨i, m, o1, o2, o3, o4⟩ => ?_), fun q2 => pa_i rfl ⟨hP.1.1, pa_i r1 ⟨(g 0).1, ?_⟩⟩⟩⟩
    · rw [o4] at q
      have := (nI_ltI (a := m) (b := 1) (by omega) (by decide)).1 q
      omega
    · rw [o3] at q; exact absurd q (nI_pos (by omega))
    · rw [m5]
      have y0 : ¬ y < 0 := fun w => q1 (Int32.lt_trans w (by decide))
      obtain ⟨m, hm, rfl⟩ := nI_of y0
      obtain ⟨i, hi, rfl⟩ := nI_of q2
      have m1 : 1 ≤ m := Nat.le_of_not_lt (fun w => q1 ((nI_ltI (a := m) (b := 1) hm (by decide)).2 w))
      have sb : (nI (visN (Q.G n) (Q.T n)) - nI m).toInt = (visN (Q.G n) (Q.T n) : Int) - m := sub_toInt (by omega) hm
      have ie : (nI i).toInt = (i : Int) := nI_toInt hi
      refine ⟨fun q => bad (fun ⟨i2, m2, o1, o2, o3, o4⟩ => ?_), fun q => ⟨0, 1, n, z, rfl, hz, hn, rfl, Or.inl ⟨rfl, i, m, m1, ?_, rfl, rfl⟩, rfl, rfl, rfl, rfl, rfl⟩⟩
      · have a1 := Int32.lt_iff_toInt_lt.1 q
        rw [sb, ie] at a1
        have e1 := (nI_eq hi (by omega)).1 o3
        have e2 := (nI_eq hm (by omega)).1 o4
        omega
      · have a1 : ¬ (nI (visN (Q.G n) (Q.T n)) - nI m).toInt < (nI i).toInt := fun w => q (Int32.lt_iff_toInt_lt.2 w)
        rw [sb, ie] at a1
        omega
  · intro av S hpre pc I hI k lo st S1 cs sl h
    obtain ⟨rfl, hp⟩ := hpre
    have hm := look_in hI
    rw [List.mem_singleton] at hm
    cases hm
    obtain ⟨c, n, z, rfl, hz, hn, hpn, hc, rfl, rfl, rfl, rfl, rfl⟩ := h
    refine ⟨300, ?_⟩
    show (2 = 2 ∧ ((c = 0 ∨ c = 1) ∧ 1 + 1 ≤ nc_i (∃ n i m, n < 4 ∧ p = nI n ∧ dlOk Q n x y i m) (nc_dlC kz Q p.toNatClampNeg y.toNatClampNeg) + 3 ∧ 6 + 6 ≤ nc_i (∃ n i m, n < 4 ∧ p = nI n ∧ dlOk Q n x y i m) (nc_dlZ kz Q p.toNatClampNeg y.toNatClampNeg) + 18 ∧ ((∀ (S_1 : MM), (S_1 = S ∧ c = 1) → (0 = 0 ∧ (∃ (n_2 : Nat), y = nI n_2 ∧ (∃ (p_3 : Nat) (F_4 : Nat → Nat × Nat) (i_5 : Nat) (A_6 : Nat → Nat) (X_7 : GX) (G_8 : Gr) (T_9 : Tr) (H_10 : List Nat) (W_11 : Nat → Nat), (isO S_1 11 (z (30 + n)) ∧ mI S_1 1100 (z (30 + n)) = nI p_3 ∧ mR S_1 1101 (z (30 + n)) = some (A_6 0) ∧ GI S_1 F_4 i_5 A_6 X_7 G_8 T_9 H_10 W_11 ∧ p_3 < 256 ∧ n_2 ≤ 1000000) ∧ 1 + 1 ≤ nc_i (∃ n i m, n < 4 ∧ p = nI n ∧ dlOk Q n x y i m) (nc_dlC kz Q p.toNatClampNeg y.toNatClampNeg) + 3 ∧ 6 + 6 ≤ nc_i (∃ n i m, n < 4 ∧ p = nI n ∧ dlOk Q n x y i m) (nc_dlZ kz Q p.toNatClampNeg y.toNatClampNeg) + 18 ∧ (((¬ (tf (n_2 = 0 ∨ (G_8.n + n_2 ≤ 8192 ∧ (hasAg G_8 p_3 ∨ G_8.m < 16)))) = 0 → (0 = 0 ∧ (∃ (ix_13 : Nat), x = nI ix_13 ∧ (∃ (n_14 : Nat), y = nI n_14 ∧ (∃ (F_15 : Nat → Nat × Nat) (i_16 jo_17 r_18 p_19 s_20 : Nat) (A_21 : Nat → Nat) (X_22 : GX) (G_23 : Gr) (T_24 : Tr) (H_25 : List Nat) (W_26 : Nat → Nat) (a_27 d_28 c_29 : Nat) (E_30 : List (Nat × Nat)) (ea_31 : Nat → Nat), (WrR S_1 F_15 i_16 jo_17 (z (30 + n)) r_18 p_19 A_21 X_22 G_23 T_24 H_25 W_26 ∧ mR S_1 1102 (z (30 + n)) = some a_27 ∧ EdL S_1 F_15 jo_17 a_27 d_28 c_29 E_30 ea_31 ∧ c_29 ≤ 50000 ∧ p_19 < 256 ∧ OwSl G_23 p_19 s_20 ∧ G_23.n + n_14 ≤ 8192 ∧ ix_13 + n_14 ≤ visN G_23 T_24 ∧ 1 ≤ n_14) ∧ 1 + 1 + (runC G_23 s_20 n_14 + ekC c_29 E_30.length n_14) ≤ nc_i (∃ n i m, n < 4 ∧ p = nI n ∧ dlOk Q n x y i m) (nc_dlC kz Q p.toNatClampNeg y.toNatClampNeg) + 3 ∧ 6 + 6 + (runZ G_23 s_20 n_14 + ekZ c_29 E_30.length n_14) ≤ nc_i (∃ n i m, n < 4 ∧ p = nI n ∧ dlOk Q n x y i m) (nc_dlZ kz Q p.toNatClampNeg y.toNatClampNeg) + 18 ∧ (∀ (S_32 : MM), (dtQ S_1 S_32 F_15 i_16 jo_17 (z (30 + n)) r_18 p_19 s_20 A_21 X_22 G_23 T_24 a_27 c_29 E_30 (List.replicate n_14 (none, ix_13))) → (isO S_32 11 (z (30 + n)) ∧ (pa (mR S_32 1101 (z (30 + n))) fun a_33 => isO S_32 6 a_33 ∧ (([] : List MV) = [] ∧ mret (some .int) (sp_wdl2 t p x y F X kz Q) [.inr (.inr (some t)), .inl p, .inl x, .inl y] S (some (.inl (mI S_32 605 a_33))) S_32 (1 + 1 + (runC G_23 s_20 n_14 + ekC c_29 E_30.length n_14)) (6 + 6 + (runZ G_23 s_20 n_14 + ekZ c_29 E_30.length n_14))))))))))) ∧ ((tf (n_2 = 0 ∨ (G_8.n + n_2 ≤ 8192 ∧ (hasAg G_8 p_3 ∨ G_8.m < 16)))) = 0 → (mthr (sp_wdl2 t p x y F X kz Q) [.inr (.inr (some t)), .inl p, .inl x, .inl y] S 0 S_1 (1 + 1 + 1) (6 + 6 + 6))))))))) ∧ ((c = 0) → mthr (sp_wdl2 t p x y F X kz Q) [.inr (.inr (some t)), .inl p, .inl x, .inl y] S 1 S (1 + 1) (6 + 6)))))
    have cn : p.toNatClampNeg = n := by rw [hpn]; exact nI_clamp (by omega)
    have hE := hp.2
    rw [cn]
    refine ⟨rfl, hc.elim (fun q => Or.inr q.1) (fun q => Or.inl q.1), by omega, by omega, fun S3 h3 => ?_, fun h0 => ⟨Or.inl ⟨rfl, Or.inr ⟨n, hn, hpn, hc.elim (fun q => absurd (q.1.symm.trans h0) (by decide)) (fun q => q.2)⟩, rfl⟩, by show _ ≤ nc_i (∃ n i m, n < 4 ∧ p = nI n ∧ dlOk Q n x y i m) (nc_dlC kz Q p.toNatClampNeg y.toNatClampNeg) + 3; omega, by show _ ≤ nc_i (∃ n i m, n < 4 ∧ p = nI n ∧ dlOk Q n x y i m) (nc_dlZ kz Q p.toNatClampNeg y.toNatClampNeg) + 18; omega⟩⟩
    obtain ⟨rfl, rfl⟩ := h3
    obtain ⟨i, m, hok⟩ : ∃ i m, dlOk Q n x y i m := hc.elim (fun q => q.2) (fun q => absurd q.1 (by decide))
    obtain ⟨o1, o2, o3, o4⟩ := id hok
    obtain ⟨A, H, W, r, a', d, ea, kn, kr, cu, hP⟩ := hz.2.1 n hn
    have gi := hP.gi
    have vl := gi.vl
    have cm : y.toNatClampNeg = m := by rw [o4]; exact nI_clamp (by omega)
    rw [nc_it (P := ∃ n i m, n < 4 ∧ p = nI n ∧ dlOk Q n x y i m) ⟨n, i, m, hn, hpn, hok⟩, nc_it (P := ∃ n i m, n < 4 ∧ p = nI n ∧ dlOk Q n x y i m) ⟨n, i, m, hn, hpn, hok⟩, cm]
    have cst : ∀ a d : Nat, a ≤ nc_dlC kz Q n m + 3 → d ≤ nc_dlZ kz Q n m + 18 → a ≤ (sp_wdl2 t p x y F X kz Q).2.1 [.inr (.inr (some t)), .inl p, .inl x, .inl y] S3 ∧ d ≤ (sp_wdl2 t p x y F X kz Q).2.2.1 [.inr (.inr (some t)), .inl p, .inl x, .inl y] S3 := fun a d h1 h2 => ⟨by show a ≤ nc_i (∃ n i m, n < 4 ∧ p = nI n ∧ dlOk Q n x y i m) (nc_dlC kz Q p.toNatClampNeg y.toNatClampNeg) + 3; rw [nc_it ⟨n, i, m, hn, hpn, hok⟩, cn, cm]; exact h1, by show d ≤ nc_i (∃ n i m, n < 4 ∧ p = nI n ∧ dlOk Q n x y i m) (nc_dlZ kz Q p.toNatClampNeg y.toNatClampNeg) + 18; rw [nc_it ⟨n, i, m, hn, hpn, hok⟩, cn, cm]; exact h2⟩
    refine ⟨rfl, m, o4, n, F, n + 1, A, X n, Q.G n, Q.T n, H, W, ⟨hP.1.1, hP.1.2.2.1, hP.1.2.2.2.1, gi, by omega, by omega⟩, by omega, by omega, fun q0 => ?_, fun q0 => ⟨Or.inr ⟨rfl, ⟨n, i, m, hn, hpn, hok, fun w => ?_⟩, rfl⟩, cst _ _ (by omega) (by omega)⟩⟩
    · have yr : roP (Q.G n) n m := Classical.byContradiction (fun w => q0 (tf_f w))
      obtain ⟨y1, y2⟩ := yr.resolve_left (by omega)
      have eC : nc_dlC kz Q n m = runC (Q.G n) (owN (Q.G n) n) m + ekC (kz (30 + n)) (Q.E n).length m := nc_t yr
      have eZ : nc_dlZ kz Q n m = runZ (Q.G n) (owN (Q.G n) n) m + ekZ (kz (30 + n)) (Q.E n).length m := nc_t yr
      rw [eC, eZ]
      refine ⟨rfl, i, o3, m, o4, F, n + 1, n + 11, r, n, owN (Q.G n) n, A, X n, Q.G n, Q.T n, H, W, a', d, kz (30 + n), Q.E n, ea, ⟨hP.1, hP.2.1, hP.2.2.1, hE n hn, by omega, owN_ok y2, y1, o2, o1⟩, by omega, by omega, fun S4 h4 => ?_⟩
      obtain ⟨F', A', X', G', T', H', W', d', ea', w1, w2, w3, w4, w5, w6, w7, w8⟩ := h4
      have hle := Run.le w6 (fun _ => owN_ok y2)
      obtain ⟨g1, g2⟩ := hz.wrote hn hP w1 w2 w3 w4 w5 w8 hle
      have r9 : mR S4 1101 (z (30 + n)) = some (A' 0) := w1.2.2.2.1
      have gi4 := w1.2.2.2.2.2.2.2.2.1
      refine ⟨w1.1, pa_i r9 ⟨(gi4 0).1, rfl, trivial, ⟨_, rfl, n, i, m, _, _, _, hn, hpn, hok, yr, ⟨G', T', X', w6, rfl, rfl, rfl⟩, ?_, F', ⟨z, g1⟩, w4, g2⟩, cst _ _ (by rw [eC]; omega) (by rw [eZ]; omega)⟩⟩
      rw [show (Q.sPe n G' T' (Q.E n ++ [((Q.G n).n, (List.replicate m ((none : Option Nat), i)).length)])).G n = G' from upF_s, show (Q.sPe n G' T' (Q.E n ++ [((Q.G n).n, (List.replicate m ((none : Option Nat), i)).length)])).T n = T' from upF_s]
      exact gi4 6
    · rw [tf_t (show m = 0 ∨ _ from w)] at q0; exact absurd q0 (by decide)
theorem u_wdl2 (l : Launch) (hlt : l.stackTraces = false) : UsX l yX11_delete (Cond.code yX11_delete cX11_delete 5 (some .int)) (some .int) 10 242 12 T_wdl2 := by
  intro Rc Rs av S cs sl K Kx h
  unfold T_wdl2 at h
  split at h
  · rename_i t_o p x y
    obtain ⟨t, rfl, h_1⟩ := pa_of h
    obtain ⟨F, X, kz, Q, hp, hc, hs, hk, hx0, hx1⟩ := h_1
    refine ⟨(sp_wdl2 t p x y F X kz Q), c_wdl2 l hlt t p x y F X kz Q, fun _ _ h9 => ⟨_, _, h9.1, h9.2.1.choose_spec.1.1.1⟩, ⟨rfl, hp⟩, hc, hs, fun v9 S' h8 => by
      obtain ⟨v8, h7, h8⟩ := h8
      cases h7
      exact hk _ _ h8, fun _ _ q => by
      rcases q with ⟨rfl, q⟩ | ⟨rfl, q⟩
      · obtain ⟨q, rfl⟩ := q
        exact hx0 q
      · obtain ⟨q, rfl⟩ := q
        exact hx1 q⟩
  · exact h.elim
