/-! ===== The class's calls again: messages ===== -/
def T_wsd2 : TR := fun Rc Rs av S cs sl K Kx => match av with
  | [.inr (.inr t_o), .inl p, .inl x, .inl s] => pa t_o fun t => (∃ (F : Nat → Nat × Nat) (X : Nat → GX) (kz : Nat → Nat) (Q : Ab), (WT S F t X kz Q) ∧ cs + (nc_i (∃ n i o, n < 4 ∧ p = nI n ∧ toO x o ∧ i < 8 ∧ s = nI i) (snC kz Q p x s) + 4) ≤ Rc ∧ sl + (nc_i (∃ n i o, n < 4 ∧ p = nI n ∧ toO x o ∧ i < 8 ∧ s = nI i) (snZ kz Q p x s) + 24) ≤ Rs ∧ ((∀ (v : Int32) (S' : MM), (∃ n i o, n < 4 ∧ p = nI n ∧ toO x o ∧ i < 8 ∧ s = nI i ∧ paT (Q.G n) (Q.Kn n) o ≤ 32768 ∧ v = nI (bPuts [] (coA (paF (Q.G n) (Q.Kn n) o) p)).length ∧ wtQ S S' F t X (upF (snK kz (Q.G n) (Q.Kn n) o p) (20 + i) (capN (coA (paF (Q.G n) (Q.Kn n) o) p).length (kz (20 + i)) 0)) (Q.sSl (upF Q.sl i (bPuts [] (coA (paF (Q.G n) (Q.Kn n) o) p))))) → K (some (.inl v)) S' (cs + (nc_i (∃ n i o, n < 4 ∧ p = nI n ∧ toO x o ∧ i < 8 ∧ s = nI i) (snC kz Q p x s) + 4)) (sl + (nc_i (∃ n i o, n < 4 ∧ p = nI n ∧ toO x o ∧ i < 8 ∧ s = nI i) (snZ kz Q p x s) + 24))) ∧ ((np 4 p ∨ (¬ ∃ o, toO x o) ∨ np 8 s) → Kx 1 S (cs + (nc_i (∃ n i o, n < 4 ∧ p = nI n ∧ toO x o ∧ i < 8 ∧ s = nI i) (snC kz Q p x s) + 4)) (sl + (nc_i (∃ n i o, n < 4 ∧ p = nI n ∧ toO x o ∧ i < 8 ∧ s = nI i) (snZ kz Q p x s) + 24))) ∧ (∀ (S' : MM), (∃ n i o, n < 4 ∧ p = nI n ∧ toO x o ∧ i < 8 ∧ s = nI i ∧ 32768 < paT (Q.G n) (Q.Kn n) o ∧ wtQ S S' F t X (snK kz (Q.G n) (Q.Kn n) o p) Q) → Kx 0 S' (cs + (nc_i (∃ n i o, n < 4 ∧ p = nI n ∧ toO x o ∧ i < 8 ∧ s = nI i) (snC kz Q p x s) + 4)) (sl + (nc_i (∃ n i o, n < 4 ∧ p = nI n ∧ toO x o ∧ i < 8 ∧ s = nI i) (snZ kz Q p x s) + 24)))))
  | _ => False
noncomputable def sp_wsd2 (t : Nat) (p : Int32) (x : Int32) (s : Int32) (F : Nat → Nat × Nat) (X : Nat → GX) (kz : Nat → Nat) (Q : Ab) : Sp := (fun av S => av = [.inr (.inr (some t)), .inl p, .inl x, .inl s] ∧ (WT S F t X kz Q), fun _ S => nc_i (∃ n i o, n < 4 ∧ p = nI n ∧ toO x o ∧ i < 8 ∧ s = nI i) (snC kz Q p x s) + 4, fun _ S => nc_i (∃ n i o, n < 4 ∧ p = nI n ∧ toO x o ∧ i < 8 ∧ s = nI i) (snZ kz Q p x s) + 24, fun _ S rv S' => ∃ v, rv = (some (.inl v)) ∧ (∃ n i o, n < 4 ∧ p = nI n ∧ toO x o ∧ i < 8 ∧ s = nI i ∧ paT (Q.G n) (Q.Kn n) o ≤ 32768 ∧ v = nI (bPuts [] (coA (paF (Q.G n) (Q.Kn n) o) p)).length ∧ wtQ S S' F t X (upF (snK kz (Q.G n) (Q.Kn n) o p) (20 + i) (capN (coA (paF (Q.G n) (Q.Kn n) o) p).length (kz (20 + i)) 0)) (Q.sSl (upF Q.sl i (bPuts [] (coA (paF (Q.G n) (Q.Kn n) o) p))))), fun _ S E S' => (E = 1 ∧ (np 4 p ∨ (¬ ∃ o, toO x o) ∨ np 8 s) ∧ S' = S) ∨ (E = 0 ∧ (∃ n i o, n < 4 ∧ p = nI n ∧ toO x o ∧ i < 8 ∧ s = nI i ∧ 32768 < paT (Q.G n) (Q.Kn n) o ∧ wtQ S S' F t X (snK kz (Q.G n) (Q.Kn n) o p) Q)))
set_option maxRecDepth 100000 in
set_option maxHeartbeats 2000000 in
theorem c_wsd2 (l : Launch) (hlt : l.stackTraces = false) : ∀ (t : Nat) (p : Int32) (x : Int32) (s : Int32) (F : Nat → Nat × Nat) (X : Nat → GX) (kz : Nat → Nat) (Q : Ab), CtX l yX11_send (Cond.code yX11_send cX11_send 6 (some .int)) (some .int) 8 187 (sp_wsd2 t p x s F X kz Q) := by
  intro t p x s F X kz Q
  refine CtX.of hlt (fX11, nX11, aX11, iX11, lX11, [(108, 0, 2, 3, T_wpo), (104, 2, 1, 0, T_wrq), (242, 0, 2, 3, T_wso9), (250, 0, 3, 0, T_wga), (254, 0, 3, 0, T_wco), (133, 0, 1, 0, T_bclr), (261, 0, 4, 0, T_brng)], qX11, gX11, thX11) false tX11_send (fun _ S => look [(22, ([0,1,2,3,4], I_sn t p x s F X kz Q S))]) (by decide) (by decide) kX11_send ⟨_, _, rfl⟩ fX11_ok nX11_ok aX11_ok iX11_ok lX11_ok (fun p e R s m args below meth c Q D cy z r A C hR1 hR2 => List.forall_mem_cons.mpr ⟨cOK_use (fun _ _ _ _ _ _ _ _ h => let ⟨sp, h1, h2, h3⟩ := u_wpo l hlt _ _ _ _ _ _ _ _ h; ⟨sp, cOKx_V C h1 vX11_send_108 ⟨by decide, by decide, by decide +kernel⟩ ⟨by rw [hR1]; decide, by rw [hR2]; decide⟩ (k := 12) (T := TX11) (N := 15) rfl (by decide) h2, h3⟩), List.forall_mem_cons.mpr ⟨cOK_use (fun _ _ _ _ _ _ _ _ h => let ⟨sp, h1, _, h3⟩ := u_wrq l hlt _ _ _ _ _ _ _ _ h; ⟨sp, cOKx_S C h1 vX11_send_104 ⟨by decide, by decide, by decide +kernel⟩ ⟨by rw [hR1]; decide, by rw [hR2]; decide⟩, h3⟩), List.forall_mem_cons.mpr ⟨cOK_use (fun _ _ _ _ _ _ _ _ h => let ⟨sp, h1, h2, h3⟩ := u_wso9 l hlt _ _ _ _ _ _ _ _ h; ⟨sp, cOKx_V C h1 vX11_send_242 ⟨by decide, by decide, by decide +kernel⟩ ⟨by rw [hR1]; decide, by rw [hR2]; decide⟩ (k := 12) (T := TX11) (N := 15) rfl (by decide) h2, h3⟩), List.forall_mem_cons.mpr ⟨cOK_use (fun _ _ _ _ _ _ _ _ h => let ⟨sp, h1, h2, h3⟩ := u_wga l _ _ _ _ _ _ _ _ h; ⟨sp, cOK_V C h1 vX11_send_250 ⟨by decide, by decide, by decide +kernel⟩ ⟨by rw [hR1]; decide, by rw [hR2]; decide⟩ (k := 10) (T := TX9) (N := 15) rfl (by decide) h2, h3⟩), List.forall_mem_cons.mpr ⟨cOK_use (fun _ _ _ _ _ _ _ _ h => let ⟨sp, h1, h2, h3⟩ := u_wco l _ _ _ _ _ _ _ _ h; ⟨sp, cOK_V C h1 vX11_send_254 ⟨by decide, by decide, by decide +kernel⟩ ⟨by rw [hR1]; decide, by rw [hR2]; decide⟩ (k := 10) (T := TX9) (N := 15) rfl (by decide) h2, h3⟩), List.forall_mem_cons.mpr ⟨cOK_use (fun _ _ _ _ _ _ _ _ h => let ⟨sp, h1, h2, h3⟩ := u_bclr l _ _ _ _ _ _ _ _ h; ⟨sp, cOK_V C h1 vX11_send_133 ⟨by decide, by decide, by decide +kernel⟩ ⟨by rw [hR1]; decide, by rw [hR2]; decide⟩ (k := 2) (T := TX1) (N := 3) rfl (by decide) h2, h3⟩), List.forall_mem_cons.mpr ⟨cOK_use (fun _ _ _ _ _ _ _ _ h => let ⟨sp, h1, h2, h3⟩ := u_brng l _ _ _ _ _ _ _ _ h; ⟨sp, cOK_V C h1 vX11_send_261 ⟨by decide, by decide, by decide +kernel⟩ ⟨by rw [hR1]; decide, by rw [hR2]; decide⟩ (k := 2) (T := TX1) (N := 3) rfl (by decide) h2, h3⟩), fun _ h => absurd h List.not_mem_nil⟩⟩⟩⟩⟩⟩⟩) qX11_ok gX11_ok (fun q hq => ⟨thX11_ok q hq, by decide, by decide⟩) ?_ ?_
  · rintro _ S ⟨rfl, hp⟩
    refine ⟨Nat.le_of_ble_eq_true rfl, 300, ?_⟩
    show (0 = 0 ∧ (∃ (F_1 : Nat → Nat × Nat) (z_2 : Nat → Nat), (SfA S F_1 t z_2) ∧ 0 + 1 ≤ nc_i (∃ n i o, n < 4 ∧ p = nI n ∧ toO x o ∧ i < 8 ∧ s = nI i) (snC kz Q p x s) + 4 ∧ 0 + 6 ≤ nc_i (∃ n i o, n < 4 ∧ p = nI n ∧ toO x o ∧ i < 8 ∧ s = nI i) (snZ kz Q p x s) + 24 ∧ ((∀ (x_4 : Option Nat) (S_3 : MM), (S_3 = S ∧ ∃ n, n < 4 ∧ p = nI n ∧ x_4 = some (z_2 (30 + n))) → ((x < (-1 : Int32) → (∃ k1, I_sn t p x s F X kz Q S k1 [(0, .inr (.inr (some t))), (1, .inl p), (2, .inl x), (3, .inl s), (4, .inr (.inr x_4))] [.inl (0 : Int32)] S_3 (0 + 1) (0 + 6))) ∧ (¬ x < (-1 : Int32) → (((4 : Int32) ≤ x → (∃ k1, I_sn t p x s F X kz Q S k1 [(0, .inr (.inr (some t))), (1, .inl p), (2, .inl x), (3, .inl s), (4, .inr (.inr x_4))] [.inl (0 : Int32)] S_3 (0 + 1) (0 + 6))) ∧ (¬ (4 : Int32) ≤ x → (∃ k1, I_sn t p x s F X kz Q S k1 [(0, .inr (.inr (some t))), (1, .inl p), (2, .inl x), (3, .inl s), (4, .inr (.inr x_4))] [.inl (1 : Int32)] S_3 (0 + 1) (0 + 6))))))) ∧ ((np 4 p) → mthr (sp_wsd2 t p x s F X kz Q) [.inr (.inr (some t)), .inl p, .inl x, .inl s] S 1 S (0 + 1) (0 + 6)))))
    obtain ⟨z, hz⟩ := hp
    refine ⟨rfl, F, z, hz.1.1, by omega, by omega, fun v S3 h => ?_, fun h => ⟨Or.inl ⟨rfl, Or.inl h, rfl⟩, by show _ ≤ nc_i (∃ n i o, n < 4 ∧ p = nI n ∧ toO x o ∧ i < 8 ∧ s = nI i) (snC kz Q p x s) + 4; omega, by show _ ≤ nc_i (∃ n i o, n < 4 ∧ p = nI n ∧ toO x o ∧ i < 8 ∧ s = nI i) (snZ kz Q p x s) + 24; omega⟩⟩
    obtain ⟨rfl, n, hn, rfl, rfl⟩ := h
    have bad : (¬ ∃ o, toO x o) → ∃ k1, I_sn t (nI n) x s F X kz Q S3 k1 [(0, .inr (.inr (some t))), (1, .inl (nI n)), (2, .inl x), (3, .inl s), (4, .inr (.inr (some (z (30 + n)))))] [.inl 0] S3 (0 + 1) (0 + 6) := fun q => ⟨0, 0, n, z, rfl, hz, hn, rfl, Or.inr ⟨rfl, q⟩, rfl, rfl, rfl, rfl, rfl⟩
    refine ⟨fun q => bad (fun ⟨o, e, h4⟩ => ?_), fun q1 => ⟨fun q => bad (fun ⟨o, e, h4⟩ => ?_), fun q2 => ⟨0, 1, n, z, rfl, hz, hn, rfl, Or.inl ⟨rfl, ?_⟩, rfl, rfl, rfl, rfl, rfl⟩⟩⟩
    · cases o with
      | none => rw [e] at q; exact absurd q (by decide)
      | some a =>
        rw [e] at q
        exact absurd (Int32.lt_of_lt_of_le q (show (-1 : Int32) ≤ 0 by decide)) (nI_pos (by have := h4 a rfl; omega))
    · cases o with
      | none => rw [e] at q; exact absurd q (by decide)
      | some a =>
        rw [e] at q
        have := (nI_leI (a := 4) (b := a) (by decide) (by have := h4 a rfl; omega)).1 q
        have := h4 a rfl
        omega
    · by_cases x0 : x < 0
      · exact ⟨none, m1_of q1 x0, fun q w => by cases w⟩
      · obtain ⟨a, ha, rfl⟩ := rng (m := 4) (by decide) x0 q2
        exact ⟨some a, rfl, fun q w => by cases w; exact ha⟩
  · intro av S hpre pc I hI k lo st S1 cs sl h
    obtain ⟨rfl, hp⟩ := hpre
    have hm := look_in hI
    rw [List.mem_singleton] at hm
    cases hm
    obtain ⟨c, n, z, rfl, hz, hn, hpn, hc, rfl, rfl, rfl, rfl, rfl⟩ := h
    refine ⟨300, ?_⟩
    show (2 = 2 ∧ ((c = 0 ∨ c = 1) ∧ 1 + 1 ≤ nc_i (∃ n i o, n < 4 ∧ p = nI n ∧ toO x o ∧ i < 8 ∧ s = nI i) (snC kz Q p x s) + 4 ∧ 6 + 6 ≤ nc_i (∃ n i o, n < 4 ∧ p = nI n ∧ toO x o ∧ i < 8 ∧ s = nI i) (snZ kz Q p x s) + 24 ∧ ((∀ (S_1 : MM), (S_1 = S ∧ c = 1) → (0 = 0 ∧ (∃ (F_2 : Nat → Nat × Nat) (z_3 : Nat → Nat), (SfA S_1 F_2 t z_3) ∧ 1 + 1 + 1 ≤ nc_i (∃ n i o, n < 4 ∧ p = nI n ∧ toO x o ∧ i < 8 ∧ s = nI i) (snC kz Q p x s) + 4 ∧ 6 + 6 + 6 ≤ nc_i (∃ n i o, n < 4 ∧ p = nI n ∧ toO x o ∧ i < 8 ∧ s = nI i) (snZ kz Q p x s) + 24 ∧ ((∀ (x_5 : Option Nat) (S_4 : MM), (S_4 = S_1 ∧ ∃ n, n < 8 ∧ s = nI n ∧ x_5 = some (z_3 (20 + n))) → (isO S_4 12 t ∧ (0 = 0 ∧ ((pa (mR S_4 1204 t) fun a_6 => (∃ (F_7 : Nat → Nat × Nat) (j_8 pk_9 pl_10 me_11 : Nat) (a_12 d_13 : Nat → Nat) (V_14 : Nat → List Int32) (cap_15 : Nat → Nat) (M_16 : List Nat) (i_17 : Nat) (A_18 : Nat → Nat) (X_19 : GX) (G_20 : Gr) (T_21 : Tr) (H_22 : List Nat) (W_23 : Nat → Nat) (kn_24 : Nat) (kr_25 : Nat → Nat) (Kn_26 : Nat → Nat → Nat) (oo_27 : Option Nat), (gaQr S_4 F_7 j_8 a_6 pk_9 pl_10 me_11 a_12 d_13 V_14 cap_15 M_16 i_17 A_18 X_19 G_20 T_21 H_22 W_23 (z (30 + n)) kn_24 kr_25 Kn_26 oo_27 x) ∧ 1 + 1 + 1 + (gaC G_20 Kn_26 oo_27 V_14 cap_15 (mN S_4 (a_12 7))) ≤ nc_i (∃ n i o, n < 4 ∧ p = nI n ∧ toO x o ∧ i < 8 ∧ s = nI i) (snC kz Q p x s) + 4 ∧ 6 + 6 + 6 + (gaZ G_20 Kn_26 oo_27 V_14 cap_15 (mN S_4 (a_12 7))) ≤ nc_i (∃ n i o, n < 4 ∧ p = nI n ∧ toO x o ∧ i < 8 ∧ s = nI i) (snZ kz Q p x s) + 24 ∧ (∀ (S_28 : MM), (gaQ S_4 S_28 F_7 j_8 a_6 pk_9 pl_10 me_11 a_12 V_14 cap_15 G_20 Kn_26 oo_27) → (isO S_28 12 t ∧ (isO S_28 12 t ∧ (0 = 0 ∧ ((pa (mR S_28 1204 t) fun a_29 => ((pa (mR S_28 1201 t) fun a_30 => (∃ (F_31 : Nat → Nat × Nat) (j_32 pk_33 pl_34 me_35 : Nat) (a_36 d_37 : Nat → Nat) (V_38 : Nat → List Int32) (cap_39 : Nat → Nat) (M_40 : List Nat) (d0_41 : Nat) (B0_42 : List Nat), (coR S_28 F_31 j_32 a_29 pk_33 pl_34 me_35 a_36 d_37 V_38 cap_39 M_40 a_30 d0_41 B0_42) ∧ 1 + 1 + 1 + (gaC G_20 Kn_26 oo_27 V_14 cap_15 (mN S_4 (a_12 7))) + (addNC (coA V_38 p).length (mN S_28 d0_41) 0) ≤ nc_i (∃ n i o, n < 4 ∧ p = nI n ∧ toO x o ∧ i < 8 ∧ s = nI i) (snC kz Q p x s) + 4 ∧ 6 + 6 + 6 + (gaZ G_20 Kn_26 oo_27 V_14 cap_15 (mN S_4 (a_12 7))) + (addNS (coA V_38 p).length (mN S_28 d0_41) 0) ≤ nc_i (∃ n i o, n < 4 ∧ p = nI n ∧ toO x o ∧ i < 8 ∧ s = nI i) (snZ kz Q p x s) + 24 ∧ (∀ (S_43 : MM), (∃ d', App (clr S_28 a_30) S_43 a_30 d0_41 d' [] (coA V_38 p)) → (isO S_43 12 t ∧ (pa (mR S_43 1201 t) fun a_44 => isO S_43 2 a_44 ∧ (((mI S_43 202 a_44) = 0 → (0 = 0 ∧ ((pa x_5 fun a_45 => ((isO S_43 2 a_45) ∧ 1 + 1 + 1 + (gaC G_20 Kn_26 oo_27 V_14 cap_15 (mN S_4 (a_12 7))) + (addNC (coA V_38 p).length (mN S_28 d0_41) 0) ≤ nc_i (∃ n i o, n < 4 ∧ p = nI n ∧ toO x o ∧ i < 8 ∧ s = nI i) (snC kz Q p x s) + 4 ∧ 6 + 6 + 6 + (gaZ G_20 Kn_26 oo_27 V_14 cap_15 (mN S_4 (a_12 7))) + (addNS (coA V_38 p).length (mN S_28 d0_41) 0) ≤ nc_i (∃ n i o, n < 4 ∧ p = nI n ∧ toO x o ∧ i < 8 ∧ s = nI i) (snZ kz Q p x s) + 24 ∧ ((isO (clr S_43 a_45) 12 t ∧ (isO (clr S_43 a_45) 12 t ∧ (pa (mR (clr S_43 a_45) 1201 t) fun a_47 => isO (clr S_43 a_45) 2 a_47 ∧ (0 = 0 ∧ ((pa x_5 fun a_48 => ((pa (mR (clr S_43 a_45) 1201 t) fun a_49 => (∃ (d_50 df_51 : Nat) (B_52 F_53 : List Nat) (i_54 j_55 : Nat), (By (clr S_43 a_45) a_48 d_50 B_52 ∧ By (clr S_43 a_45) a_49 df_51 F_53 ∧ a_49 ≠ a_48 ∧ df_51 ≠ d_50 ∧ (0 : Int32) = nI i_54 ∧ (mI (clr S_43 a_45) 201 a_47) = nI j_55 ∧ i_54 ≤ 32768 ∧ j_55 ≤ 32768) ∧ 1 + 1 + 1 + (gaC G_20 Kn_26 oo_27 V_14 cap_15 (mN S_4 (a_12 7))) + (addNC (coA V_38 p).length (mN S_28 d0_41) 0) + (addNC (rngV F_53 i_54 (j_55 - i_54)).length (mN (clr S_43 a_45) d_50) B_52.length) ≤ nc_i (∃ n i o, n < 4 ∧ p = nI n ∧ toO x o ∧ i < 8 ∧ s = nI i) (snC kz Q p x s) + 4 ∧ 6 + 6 + 6 + (gaZ G_20 Kn_26 oo_27 V_14 cap_15 (mN S_4 (a_12 7))) + (addNS (coA V_38 p).length (mN S_28 d0_41) 0) + (addNS (rngV F_53 i_54 (j_55 - i_54)).length (mN (clr S_43 a_45) d_50) B_52.length) ≤ nc_i (∃ n i o, n < 4 ∧ p = nI n ∧ toO x o ∧ i < 8 ∧ s = nI i) (snZ kz Q p x s) + 24 ∧ (∀ (S_56 : MM), (∃ d', App (clr S_43 a_45) S_56 a_48 d_50 d' B_52 (rngV F_53 i_54 (j_55 - i_54))) → (pa x_5 fun a_57 => isO S_56 2 a_57 ∧ (([] : List MV) = [] ∧ mret (some .int) (sp_wsd2 t p x s F X kz Q) [.inr (.inr (some t)), .inl p, .inl x, .inl s] S (some (.inl (mI S_56 201 a_57))) S_56 (1 + 1 + 1 + (gaC G_20 Kn_26 oo_27 V_14 cap_15 (mN S_4 (a_12 7))) + (addNC (coA V_38 p).length (mN S_28 d0_41) 0) + (addNC (rngV F_53 i_54 (j_55 - i_54)).length (mN (clr S_43 a_45) d_50) B_52.length)) (6 + 6 + 6 + (gaZ G_20 Kn_26 oo_27 V_14 cap_15 (mN S_4 (a_12 7))) + (addNS (coA V_38 p).length (mN S_28 d0_41) 0) + (addNS (rngV F_53 i_54 (j_55 - i_54)).length (mN (clr S_43 a_45) d_50) B_52.length)))))))))))))))))))) ∧ (¬ (mI S_43 202 a_44) = 0 → (mthr (sp_wsd2 t p x s F X kz Q) [.inr (.inr (some t)), .inl p, .inl x, .inl s] S 0 S_43 (1 + 1 + 1 + (gaC G_20 Kn_26 oo_27 V_14 cap_15 (mN S_4 (a_12 7))) + (addNC (coA V_38 p).length (mN S_28 d0_41) 0) + 1) (6 + 6 + 6 + (gaZ G_20 Kn_26 oo_27 V_14 cap_15 (mN S_4 (a_12 7))) + (addNS (coA V_38 p).length (mN S_28 d0_41) 0) + 6)))))))))))))))))))))) ∧ ((np 8 s) → mthr (sp_wsd2 t p x s F X kz Q) [.inr (.inr (some t)), .inl p, .inl x, .inl s] S 1 S_1 (1 + 1 + 1) (6 + 6 + 6)))))) ∧ ((c = 0) → mthr (sp_wsd2 t p x s F X kz Q) [.inr (.inr (some t)), .inl p, .inl x, .inl s] S 1 S (1 + 1) (6 + 6)))))
    have cn : p.toNatClampNeg = n := by rw [hpn]; exact nI_clamp (by omega)
    refine ⟨rfl, hc.elim (fun q => Or.inr q.1) (fun q => Or.inl q.1), by omega, by omega, fun S3 h3 => ?_, fun h0 => ⟨Or.inl ⟨rfl, Or.inr (Or.inl (hc.elim (fun q => absurd (q.1.symm.trans h0) (by decide)) (fun q => q.2))), rfl⟩, by show _ ≤ nc_i (∃ n i o, n < 4 ∧ p = nI n ∧ toO x o ∧ i < 8 ∧ s = nI i) (snC kz Q p x s) + 4; omega, by show _ ≤ nc_i (∃ n i o, n < 4 ∧ p = nI n ∧ toO x o ∧ i < 8 ∧ s = nI i) (snZ kz Q p x s) + 24; omega⟩⟩
    obtain ⟨rfl, rfl⟩ := h3
    obtain ⟨o, ho⟩ : ∃ o, toO x o := hc.elim (fun q => q.2) (fun q => absurd q.1 (by decide))
    refine ⟨rfl, F, z, hz.1.1, by omega, by omega, fun v S4 h => ?_, fun h => ⟨Or.inl ⟨rfl, Or.inr (Or.inr h), rfl⟩, by show _ ≤ nc_i (∃ n i o, n < 4 ∧ p = nI n ∧ toO x o ∧ i < 8 ∧ s = nI i) (snC kz Q p x s) + 4; omega, by show _ ≤ nc_i (∃ n i o, n < 4 ∧ p = nI n ∧ toO x o ∧ i < 8 ∧ s = nI i) (snZ kz Q p x s) + 24; omega⟩⟩
    obtain ⟨rfl, i, hi, hsi, rfl⟩ := h
    have ci : s.toNatClampNeg = i := by rw [hsi]; exact nI_clamp (by omega)
    obtain ⟨A, H, W, r, a', d9, ea, kn, kr, cu, hP⟩ := hz.2.1 n hn
    obtain ⟨pl, me, a, d, V, cap, hW, hWn, hWo⟩ := hz.2.2.2.2.2.1
    have wc := hW.2.2.2.2.2.2.2.2.2.1
    have hK : ∀ k, k < 6 → capN (V k).length (cap k) 0 = kz (40 + k) := fun k hk => (wc k hk).2.2.2.2.symm.trans (hWn k hk)
    have r4 : mR S4 1204 t = some (z 4) := hz.1.1.2.2.1 4 (by decide) (by decide) (by decide) (by decide)
    have nf : ∀ {b u v}, F b = (u, v) → u ≠ 23 → (F b).1 ≠ 23 := fun {b u v} e hu w => hu (by rw [e] at w; exact w)
    have gq : gaQr S4 F 23 (z 4) (z 6) pl me a d V cap [] (n + 1) A (X n) (Q.G n) (Q.T n) H W (z (30 + n)) kn kr (Q.Kn n) o x := ⟨⟨hW, hP.gi, by omega, by omega⟩, hP.1.1, hP.1.2.2.2.1, hP.2.2.2.1, nf hP.1.2.1 (by omega), nf hP.2.2.2.2.2.2.1 (by omega), fun q hq => nf (hP.2.2.2.2.2.2.2.1 q hq) (by omega), ho.1, ho.2⟩
    obtain ⟨c1, c2⟩ := ga_cost (G := Q.G n) (Kn := Q.Kn n) (o := o) hK
    have eC : snC kz Q p x s = sdC kz (Q.G n) (Q.Kn n) o + addNC (coA (paF (Q.G n) (Q.Kn n) o) p).length (kz 1) 0 + (if paT (Q.G n) (Q.Kn n) o ≤ 32768 then addNC (coA (paF (Q.G n) (Q.Kn n) o) p).length (kz (20 + i)) 0 else 0) := by unfold snC; rw [cn, ci, toO_sd ho]
    have eZ : snZ kz Q p x s = sdZ kz (Q.G n) (Q.Kn n) o + addNS (coA (paF (Q.G n) (Q.Kn n) o) p).length (kz 1) 0 + (if paT (Q.G n) (Q.Kn n) o ≤ 32768 then addNS (coA (paF (Q.G n) (Q.Kn n) o) p).length (kz (20 + i)) 0 else 0) := by unfold snZ; rw [cn, ci, toO_sd ho]
    have nC := nc_it (P := ∃ n i o, n < 4 ∧ p = nI n ∧ toO x o ∧ i < 8 ∧ s = nI i) (a := snC kz Q p x s) ⟨n, i, o, hn, hpn, ho, hi, hsi⟩
    have nZ := nc_it (P := ∃ n i o, n < 4 ∧ p = nI n ∧ toO x o ∧ i < 8 ∧ s = nI i) (a := snZ kz Q p x s) ⟨n, i, o, hn, hpn, ho, hi, hsi⟩
    have cst : ∀ a d : Nat, a ≤ nc_i (∃ n i o, n < 4 ∧ p = nI n ∧ toO x o ∧ i < 8 ∧ s = nI i) (snC kz Q p x s) + 4 → d ≤ nc_i (∃ n i o, n < 4 ∧ p = nI n ∧ toO x o ∧ i < 8 ∧ s = nI i) (snZ kz Q p x s) + 24 → a ≤ (sp_wsd2 t p x s F X kz Q).2.1 [.inr (.inr (some t)), .inl p, .inl x, .inl s] S4 ∧ d ≤ (sp_wsd2 t p x s F X kz Q).2.2.1 [.inr (.inr (some t)), .inl p, .inl x, .inl s] S4 := fun a d h1 h2 => ⟨h1, h2⟩
    refine ⟨hz.1.1.1, rfl, pa_i r4 ⟨F, 23, z 6, pl, me, a, d, V, cap, [], n + 1, A, X n, Q.G n, Q.T n, H, W, kn, kr, Q.Kn n, o, gq, ?_, ?_, fun S5 h5 => ?_⟩⟩
    · rw [hWo, c1, nC, eC]; omega
    · rw [hWo, c2, nZ, eZ]; omega
    · rw [hWo, c1, c2]
      obtain ⟨F5, a5, d5, cap5, g1, g2, g3, g4⟩ := hz.gath hW hWn hWo h5
      have k5 : Keep (fun b => cO (F b).1) S4 S5 := g4.mono (fun b _ e => by show cO (F b).1; rw [e]; exact ⟨by decide, by decide⟩)
      obtain ⟨d1, B1, hB5⟩ := g2.2.2.2.1
      have e1 : sdK kz (Q.G n) (Q.Kn n) o 1 = kz 1 := by unfold sdK; rw [if_neg (by decide), if_neg (by decide)]
      rw [e1] at hB5
      have r45 : mR S5 1204 t = some (z 4) := g2.1.1.2.2.1 4 (by decide) (by decide) (by decide) (by decide)
      have r15 : mR S5 1201 t = some (z 1) := g2.1.1.2.2.1 1 (by decide) (by decide) (by decide) (by decide)
      have nf5 : ∀ {b v}, F5 b = (22, v) → (F5 b).1 ≠ 23 := fun {b v} e w => by rw [e] at w; have w : 22 = 23 := w; exact absurd w (by decide)
      refine ⟨g2.1.1.1, g2.1.1.1, rfl, pa_i r45 (pa_i r15 ⟨F5, 23, z 6, pl, me, a5, d5, _, cap5, _, d1, B1, ⟨g1, hB5.1, nf5 hB5.2.1, nf5 hB5.2.2.1⟩, ?_, ?_, fun S6 h6 => ?_⟩)⟩
      · rw [hB5.2.2.2, nC, eC]; omega
      · rw [hB5.2.2.2, nZ, eZ]; omega
      · rw [hB5.2.2.2]
        obtain ⟨d6, h6⟩ := h6
        have hsp := h6.spilt
        obtain ⟨F6, w1, w2, w3, w4⟩ := App.ownC hB5 g2.fo (by decide) h6
        have b6 : Bt S6 F6 22 (z 1) d6 (bPuts [] (coA (paF (Q.G n) (Q.Kn n) o) p)) (snK kz (Q.G n) (Q.Kn n) o p 1) := by unfold snK; rw [upF_s]; exact w1
        have g6 : WTz S6 F6 t z X (snK kz (Q.G n) (Q.Kn n) o p) Q := g2.wire (K' := snK kz (Q.G n) (Q.Kn n) o p) ⟨d6, _, b6⟩ (fun k hk => upF_o hk) w4 w2 w3
        have r16 : mR S6 1201 t = some (z 1) := g6.1.1.2.2.1 1 (by decide) (by decide) (by decide) (by decide)
        have k6 : Keep (fun b => cO (F b).1) S4 S6 := k5.trN w4 (fun b hb e => by show cO (F b).1; rw [← g3 b hb, e]; exact ⟨by decide, by decide⟩)
        have f6 : ∀ b, b ∈ mL S4 → F6 b = F b := fun b hb => (w2 b (g4.1 b hb).1).trans (g3 b hb)
        refine ⟨g6.1.1.1, pa_i r16 ⟨w1.1.1, fun q0 => ?_, fun q0 => ⟨Or.inr ⟨rfl, n, i, o, hn, hpn, ho, hi, hsi, Nat.lt_of_not_le (fun w => q0 (by rw [hsp, if_pos ((paT_co p).1 w)])), F6, ⟨z, g6⟩, f6, k6⟩, cst _ _ (by rw [nC, eC]; omega) (by rw [nZ, eZ]; omega)⟩⟩⟩
        have hl : (coA (paF (Q.G n) (Q.Kn n) o) p).length ≤ 32768 := Classical.byContradiction (fun w => by rw [hsp, if_neg w] at q0; exact absurd q0 (by decide))
        have ht : paT (Q.G n) (Q.Kn n) o ≤ 32768 := (paT_co p).2 hl
        rw [if_pos ht] at eC eZ
        obtain ⟨dd, hB⟩ := g6.2.2.2.2.1 i hi
        have ek : snK kz (Q.G n) (Q.Kn n) o p (20 + i) = kz (20 + i) := by
          unfold snK
          rw [upF_o (by omega)]
          unfold sdK
          rw [if_neg (by omega), if_neg (by omega)]
        rw [ek] at hB
        have lL : (bPuts [] (coA (paF (Q.G n) (Q.Kn n) o) p)).length = (coA (paF (Q.G n) (Q.Kn n) o) p).length := by
          rw [bPuts_len (by decide)]
          show min (0 + _) 32768 = _
          omega
        have hP9 : (bPuts [] (coA (paF (Q.G n) (Q.Kn n) o) p)).length ≤ 32768 := by rw [lL]; exact hl
        have oc : ∀ {k b}, isO S6 k b → isO (clr S6 (z (20 + i))) k b := fun h => isO_sI (isO_sI h)
        have kc : Keep (fun b => b = z (20 + i)) S6 (clr S6 (z (20 + i))) := Keep.sI (P := fun b => b = z (20 + i)) (Keep.sI (P := fun b => b = z (20 + i)) Keep.rf rfl) rfl
        have n0 : ∀ {b v}, F6 b = (22, v) → b ≠ z (20 + i) := fun {b v} e w => by
          rw [w, hB.2.1] at e
          injection e with e _
          omega
        have nd : d6 ≠ dd := fun w => by
          have e := w1.2.2.1
          rw [w, hB.2.2.1] at e
          injection e with e _
          omega
        have bw : By (clr S6 (z (20 + i))) (z 1) d6 (bPuts [] (coA (paF (Q.G n) (Q.Kn n) o) p)) := w1.1.keep kc (n0 w1.2.1) (n0 w1.2.2.1)
        have bs : By (clr S6 (z (20 + i))) (z (20 + i)) dd [] := hB.1.clear
        have r17 : mR (clr S6 (z (20 + i))) 1201 t = some (z 1) := r16
        have mB : mN (clr S6 (z (20 + i))) dd = kz (20 + i) := hB.2.2.2
        have cC : addNC (rngV (bPuts [] (coA (paF (Q.G n) (Q.Kn n) o) p)) 0 ((bPuts [] (coA (paF (Q.G n) (Q.Kn n) o) p)).length - 0)).length (mN (clr S6 (z (20 + i))) dd) ([] : List Nat).length = addNC (coA (paF (Q.G n) (Q.Kn n) o) p).length (kz (20 + i)) 0 := by rw [rngV_len, Nat.sub_zero, lL, mB, List.length_nil]
        have cZ : addNS (rngV (bPuts [] (coA (paF (Q.G n) (Q.Kn n) o) p)) 0 ((bPuts [] (coA (paF (Q.G n) (Q.Kn n) o) p)).length - 0)).length (mN (clr S6 (z (20 + i))) dd) ([] : List Nat).length = addNS (coA (paF (Q.G n) (Q.Kn n) o) p).length (kz (20 + i)) 0 := by rw [rngV_len, Nat.sub_zero, lL, mB, List.length_nil]
        refine ⟨rfl, pa_i rfl ⟨hB.1.1, by rw [nC, eC]; omega, by rw [nZ, eZ]; omega, oc g6.1.1.1, oc g6.1.1.1, pa_i r17 ⟨bw.1, rfl, pa_i rfl (pa_i r17 ⟨dd, d6, [], bPuts [] (coA (paF (Q.G n) (Q.Kn n) o) p), 0, (bPuts [] (coA (paF (Q.G n) (Q.Kn n) o) p)).length, ⟨bs, bw, n0 w1.2.1, nd, rfl, bw.2.2.2.1, by decide, hP9⟩, by rw [cC, nC, eC]; omega, by rw [cZ, nZ, eZ]; omega, fun S8 h8 => ?_⟩)⟩⟩⟩
        obtain ⟨d8, h8⟩ := h8
        rw [cC, cZ]
        rw [Nat.sub_zero, rngV_all hP9] at h8
        obtain ⟨F8, y1, y2, y3, y4⟩ := App.ownC hB g6.fo (by omega) h8
        rw [bPuts_map w1.1.2.2.2.2.2.2.2.1 hP9, List.length_map, lL] at y1
        refine pa_i rfl ⟨y1.1.1, rfl, trivial, ⟨_, rfl, n, i, o, hn, hpn, ho, hi, hsi, ht, y1.1.2.2.2.1, F8, ⟨z, g6.slot hi ⟨d8, by rw [upF_s]; exact y1⟩ (fun l hl => upF_o hl) y4 y2 y3⟩, fun b hb => (y2 b (k6.1 b hb).1).trans (f6 b hb), k6.trN y4 (fun b hb e => ?_)⟩, cst _ _ (by rw [nC, eC]; omega) (by rw [nZ, eZ]; omega)⟩
        show cO (F b).1
        rw [← f6 b hb, e]; exact ⟨by omega, by omega⟩
theorem u_wsd2 (l : Launch) (hlt : l.stackTraces = false) : UsX l yX11_send (Cond.code yX11_send cX11_send 6 (some .int)) (some .int) 8 187 12 T_wsd2 := by
  intro Rc Rs av S cs sl K Kx h
  unfold T_wsd2 at h
  split at h
  · rename_i t_o p x s
    obtain ⟨t, rfl, h_1⟩ := pa_of h
    obtain ⟨F, X, kz, Q, hp, hc, hs, hk, hx0, hx1⟩ := h_1
    refine ⟨(sp_wsd2 t p x s F X kz Q), c_wsd2 l hlt t p x s F X kz Q, fun _ _ h9 => ⟨_, _, h9.1, h9.2.choose_spec.1.1.1⟩, ⟨rfl, hp⟩, hc, hs, fun v9 S' h8 => by
      obtain ⟨v8, h7, h8⟩ := h8
      cases h7
      exact hk _ _ h8, fun _ _ q => by
      rcases q with ⟨rfl, q⟩ | ⟨rfl, q⟩
      · obtain ⟨q, rfl⟩ := q
        exact hx0 q
      · exact hx1 _ q⟩
  · exact h.elim
def T_wtk2 : TR := fun Rc Rs av S cs sl K Kx => match av with
  | [.inr (.inr t_o), .inl p, .inl s] => pa t_o fun t => (∃ (F : Nat → Nat × Nat) (X : Nat → GX) (kz : Nat → Nat) (Q : Ab) (kC kZ : Nat), (WT S F t X kz Q ∧ tkB Q p s kC kZ) ∧ cs + (nc_i (∃ n i, tkA Q p s n i ∧ Q.sl i ≠ []) (nc_kC kz (Q.sl s.toNatClampNeg) + kC) + 4) ≤ Rc ∧ sl + (nc_i (∃ n i, tkA Q p s n i ∧ Q.sl i ≠ []) (nc_kZ kz (Q.sl s.toNatClampNeg) + kZ) + 24) ≤ Rs ∧ ((∀ (v : Int32) (S' : MM), (∃ n i c, tkA Q p s n i ∧ Q.sl i ≠ [] ∧ v = nI c ∧ c ≤ 8192 ∧ tkR S S' F t kz Q n (Q.sl i) (fun f => f = 0) id c) → K (some (.inl v)) S' (cs + (nc_i (∃ n i, tkA Q p s n i ∧ Q.sl i ≠ []) (nc_kC kz (Q.sl s.toNatClampNeg) + kC) + 4)) (sl + (nc_i (∃ n i, tkA Q p s n i ∧ Q.sl i ≠ []) (nc_kZ kz (Q.sl s.toNatClampNeg) + kZ) + 24))) ∧ ((np 4 p ∨ np 8 s) → Kx 1 S (cs + (nc_i (∃ n i, tkA Q p s n i ∧ Q.sl i ≠ []) (nc_kC kz (Q.sl s.toNatClampNeg) + kC) + 4)) (sl + (nc_i (∃ n i, tkA Q p s n i ∧ Q.sl i ≠ []) (nc_kZ kz (Q.sl s.toNatClampNeg) + kZ) + 24))) ∧ ((∃ n i, tkA Q p s n i ∧ Q.sl i = []) → Kx 2 S (cs + (nc_i (∃ n i, tkA Q p s n i ∧ Q.sl i ≠ []) (nc_kC kz (Q.sl s.toNatClampNeg) + kC) + 4)) (sl + (nc_i (∃ n i, tkA Q p s n i ∧ Q.sl i ≠ []) (nc_kZ kz (Q.sl s.toNatClampNeg) + kZ) + 24))) ∧ (∀ (S' : MM), (∃ n i c, tkA Q p s n i ∧ Q.sl i ≠ [] ∧ tkR S S' F t kz Q n (Q.sl i) (fun f => f = 5) id c) → Kx 2 S' (cs + (nc_i (∃ n i, tkA Q p s n i ∧ Q.sl i ≠ []) (nc_kC kz (Q.sl s.toNatClampNeg) + kC) + 4)) (sl + (nc_i (∃ n i, tkA Q p s n i ∧ Q.sl i ≠ []) (nc_kZ kz (Q.sl s.toNatClampNeg) + kZ) + 24))) ∧ (∀ (S' : MM), (∃ n i c, tkA Q p s n i ∧ Q.sl i ≠ [] ∧ tkR S S' F t kz Q n (Q.sl i) (fun f => f = 6) id c) → Kx 3 S' (cs + (nc_i (∃ n i, tkA Q p s n i ∧ Q.sl i ≠ []) (nc_kC kz (Q.sl s.toNatClampNeg) + kC) + 4)) (sl + (nc_i (∃ n i, tkA Q p s n i ∧ Q.sl i ≠ []) (nc_kZ kz (Q.sl s.toNatClampNeg) + kZ) + 24))) ∧ (∀ (S' : MM), (∃ n i c, tkA Q p s n i ∧ Q.sl i ≠ [] ∧ tkR S S' F t kz Q n (Q.sl i) (fun f => f = 7) id c) → Kx 0 S' (cs + (nc_i (∃ n i, tkA Q p s n i ∧ Q.sl i ≠ []) (nc_kC kz (Q.sl s.toNatClampNeg) + kC) + 4)) (sl + (nc_i (∃ n i, tkA Q p s n i ∧ Q.sl i ≠ []) (nc_kZ kz (Q.sl s.toNatClampNeg) + kZ) + 24))) ∧ (∀ (S' : MM), (∃ n i c, tkA Q p s n i ∧ Q.sl i ≠ [] ∧ tkR S S' F t kz Q n (Q.sl i) (fun f => 1 ≤ f ∧ f ≤ 4) id c) → Kx 1 S' (cs + (nc_i (∃ n i, tkA Q p s n i ∧ Q.sl i ≠ []) (nc_kC kz (Q.sl s.toNatClampNeg) + kC) + 4)) (sl + (nc_i (∃ n i, tkA Q p s n i ∧ Q.sl i ≠ []) (nc_kZ kz (Q.sl s.toNatClampNeg) + kZ) + 24)))))
  | _ => False
noncomputable def sp_wtk2 (t : Nat) (p : Int32) (s : Int32) (F : Nat → Nat × Nat) (X : Nat → GX) (kz : Nat → Nat) (Q : Ab) (kC kZ : Nat) : Sp := (fun av S => av = [.inr (.inr (some t)), .inl p, .inl s] ∧ (WT S F t X kz Q ∧ tkB Q p s kC kZ), fun _ S => nc_i (∃ n i, tkA Q p s n i ∧ Q.sl i ≠ []) (nc_kC kz (Q.sl s.toNatClampNeg) + kC) + 4, fun _ S => nc_i (∃ n i, tkA Q p s n i ∧ Q.sl i ≠ []) (nc_kZ kz (Q.sl s.toNatClampNeg) + kZ) + 24, fun _ S rv S' => ∃ v, rv = (some (.inl v)) ∧ (∃ n i c, tkA Q p s n i ∧ Q.sl i ≠ [] ∧ v = nI c ∧ c ≤ 8192 ∧ tkR S S' F t kz Q n (Q.sl i) (fun f => f = 0) id c), fun _ S E S' => (E = 1 ∧ (np 4 p ∨ np 8 s) ∧ S' = S) ∨ (E = 2 ∧ (∃ n i, tkA Q p s n i ∧ Q.sl i = []) ∧ S' = S) ∨ (E = 2 ∧ (∃ n i c, tkA Q p s n i ∧ Q.sl i ≠ [] ∧ tkR S S' F t kz Q n (Q.sl i) (fun f => f = 5) id c)) ∨ (E = 3 ∧ (∃ n i c, tkA Q p s n i ∧ Q.sl i ≠ [] ∧ tkR S S' F t kz Q n (Q.sl i) (fun f => f = 6) id c)) ∨ (E = 0 ∧ (∃ n i c, tkA Q p s n i ∧ Q.sl i ≠ [] ∧ tkR S S' F t kz Q n (Q.sl i) (fun f => f = 7) id c)) ∨ (E = 1 ∧ (∃ n i c, tkA Q p s n i ∧ Q.sl i ≠ [] ∧ tkR S S' F t kz Q n (Q.sl i) (fun f => 1 ≤ f ∧ f ≤ 4) id c)))
set_option maxRecDepth 100000 in
set_option maxHeartbeats 2000000 in
theorem c_wtk2 (l : Launch) (hlt : l.stackTraces = false) : ∀ (t : Nat) (p : Int32) (s : Int32) (F : Nat → Nat × Nat) (X : Nat → GX) (kz : Nat → Nat) (Q : Ab) (kC kZ : Nat), CtX l yX11_take (Cond.code yX11_take cX11_take 6 (some .int)) (some .int) 11 271 (sp_wtk2 t p s F X kz Q kC kZ) := by
  intro t p s F X kz Q kC kZ
  refine CtX.of hlt (fX11, nX11, aX11, iX11, lX11, [(108, 0, 2, 3, T_wpo), (242, 0, 2, 3, T_wso9), (264, 0, 3, 1, T_wdv), (268, 0, 1, 0, T_wrf)], qX11, gX11, thX11) false tX11_take (fun _ _ _ => none) (by decide) (by decide) kX11_take ⟨_, _, rfl⟩ fX11_ok nX11_ok aX11_ok iX11_ok lX11_ok (fun p e R s m args below meth c Q D cy z r A C hR1 hR2 => List.forall_mem_cons.mpr ⟨cOK_use (fun _ _ _ _ _ _ _ _ h => let ⟨sp, h1, h2, h3⟩ := u_wpo l hlt _ _ _ _ _ _ _ _ h; ⟨sp, cOKx_V C h1 vX11_take_108 ⟨by decide, by decide, by decide +kernel⟩ ⟨by rw [hR1]; decide, by rw [hR2]; decide⟩ (k := 12) (T := TX11) (N := 15) rfl (by decide) h2, h3⟩), List.forall_mem_cons.mpr ⟨cOK_use (fun _ _ _ _ _ _ _ _ h => let ⟨sp, h1, h2, h3⟩ := u_wso9 l hlt _ _ _ _ _ _ _ _ h; ⟨sp, cOKx_V C h1 vX11_take_242 ⟨by decide, by decide, by decide +kernel⟩ ⟨by rw [hR1]; decide, by rw [hR2]; decide⟩ (k := 12) (T := TX11) (N := 15) rfl (by decide) h2, h3⟩), List.forall_mem_cons.mpr ⟨cOK_use (fun _ _ _ _ _ _ _ _ h => let ⟨sp, h1, h2, h3⟩ := u_wdv l _ _ _ _ _ _ _ _ h; ⟨sp, cOK_V C h1 vX11_take_264 ⟨by decide, by decide, by decide +kernel⟩ ⟨by rw [hR1]; decide, by rw [hR2]; decide⟩ (k := 12) (T := TX11) (N := 15) rfl (by decide) h2, h3⟩), List.forall_mem_cons.mpr ⟨cOK_use (fun _ _ _ _ _ _ _ _ h => let ⟨sp, h1, h2, h3⟩ := u_wrf l hlt _ _ _ _ _ _ _ _ h; ⟨sp, cOKx_V C h1 vX11_take_268 ⟨by decide, by decide, by decide +kernel⟩ ⟨by rw [hR1]; decide, by rw [hR2]; decide⟩ (k := 12) (T := TX11) (N := 15) rfl (by decide) h2, h3⟩), fun _ h => absurd h List.not_mem_nil⟩⟩⟩⟩) qX11_ok gX11_ok (fun q hq => ⟨thX11_ok q hq, by decide, by decide⟩) ?_ ?_
  · rintro _ S ⟨rfl, hp⟩
    refine ⟨Nat.le_of_ble_eq_true rfl, 300, ?_⟩
    show (0 = 0 ∧ (∃ (F_1 : Nat → Nat × Nat) (z_2 : Nat → Nat), (SfA S F_1 t z_2) ∧ 0 + 1 ≤ nc_i (∃ n i, tkA Q p s n i ∧ Q.sl i ≠ []) (nc_kC kz (Q.sl s.toNatClampNeg) + kC) + 4 ∧ 0 + 6 ≤ nc_i (∃ n i, tkA Q p s n i ∧ Q.sl i ≠ []) (nc_kZ kz (Q.sl s.toNatClampNeg) + kZ) + 24 ∧ ((∀ (x_4 : Option Nat) (S_3 : MM), (S_3 = S ∧ ∃ n, n < 4 ∧ p = nI n ∧ x_4 = some (z_2 (30 + n))) → (0 = 0 ∧ (∃ (F_5 : Nat → Nat × Nat) (z_6 : Nat → Nat), (SfA S_3 F_5 t z_6) ∧ 0 + 1 + 1 ≤ nc_i (∃ n i, tkA Q p s n i ∧ Q.sl i ≠ []) (nc_kC kz (Q.sl s.toNatClampNeg) + kC) + 4 ∧ 0 + 6 + 6 ≤ nc_i (∃ n i, tkA Q p s n i ∧ Q.sl i ≠ []) (nc_kZ kz (Q.sl s.toNatClampNeg) + kZ) + 24 ∧ ((∀ (x_8 : Option Nat) (S_7 : MM), (S_7 = S_3 ∧ ∃ n, n < 8 ∧ s = nI n ∧ x_8 = some (z_6 (20 + n))) → (pa x_8 fun a_9 => isO S_7 2 a_9 ∧ ((¬ (mI S_7 201 a_9) = 0 → (0 = 0 ∧ ((pa x_4 fun a_10 => ((pa x_8 fun a_11 => (∃ (F_12 : Nat → Nat × Nat) (z_13 : Nat → Nat) (X_14 : Nat → GX) (kz_15 : Nat → Nat) (Q_16 : Ab) (n_17 j_18 d_19 : Nat) (B_20 : List Nat) (nn_21 kC_22 kZ_23 : Nat), (dvP S_7 F_12 t z_13 X_14 kz_15 Q_16 n_17 j_18 a_10 a_11 d_19 B_20 nn_21 kC_22 kZ_23) ∧ 0 + 1 + 1 + (addNC (nc_dU B_20) (kz_15 45) 0 + kC_22) ≤ nc_i (∃ n i, tkA Q p s n i ∧ Q.sl i ≠ []) (nc_kC kz (Q.sl s.toNatClampNeg) + kC) + 4 ∧ 0 + 6 + 6 + (addNS (nc_dU B_20) (kz_15 45) 0 + kZ_23) ≤ nc_i (∃ n i, tkA Q p s n i ∧ Q.sl i ≠ []) (nc_kZ kz (Q.sl s.toNatClampNeg) + kZ) + 24 ∧ (∀ (x_25 : Int32) (S_24 : MM), (dvQ S_7 S_24 F_12 t z_13 kz_15 Q_16 n_17 j_18 B_20 x_25) → (0 = 0 ∧ (∃ (F_26 : Nat → Nat × Nat) (z_27 : Nat → Nat) (ft_28 fo_29 : Nat) (mp_30 : Nat → Option Nat) (ms_31 : Nat → Nat), (isO S_24 12 t ∧ SfB S_24 F_26 t z_27 ft_28 fo_29 mp_30 ms_31) ∧ 0 + 1 + 1 + (addNC (nc_dU B_20) (kz_15 45) 0 + kC_22) + 1 ≤ nc_i (∃ n i, tkA Q p s n i ∧ Q.sl i ≠ []) (nc_kC kz (Q.sl s.toNatClampNeg) + kC) + 4 ∧ 0 + 6 + 6 + (addNS (nc_dU B_20) (kz_15 45) 0 + kZ_23) + 6 ≤ nc_i (∃ n i, tkA Q p s n i ∧ Q.sl i ≠ []) (nc_kZ kz (Q.sl s.toNatClampNeg) + kZ) + 24 ∧ ((∀ (S_32 : MM), (S_32 = S_24 ∧ ft_28 = 0) → (([] : List MV) = [] ∧ mret (some .int) (sp_wtk2 t p s F X kz Q kC kZ) [.inr (.inr (some t)), .inl p, .inl s] S (some (.inl x_25)) S_32 (0 + 1 + 1 + (addNC (nc_dU B_20) (kz_15 45) 0 + kC_22) + 1) (0 + 6 + 6 + (addNS (nc_dU B_20) (kz_15 45) 0 + kZ_23) + 6))) ∧ ((ft_28 = 5) → mthr (sp_wtk2 t p s F X kz Q kC kZ) [.inr (.inr (some t)), .inl p, .inl s] S 2 S_24 (0 + 1 + 1 + (addNC (nc_dU B_20) (kz_15 45) 0 + kC_22) + 1) (0 + 6 + 6 + (addNS (nc_dU B_20) (kz_15 45) 0 + kZ_23) + 6)) ∧ ((ft_28 = 6) → mthr (sp_wtk2 t p s F X kz Q kC kZ) [.inr (.inr (some t)), .inl p, .inl s] S 3 S_24 (0 + 1 + 1 + (addNC (nc_dU B_20) (kz_15 45) 0 + kC_22) + 1) (0 + 6 + 6 + (addNS (nc_dU B_20) (kz_15 45) 0 + kZ_23) + 6)) ∧ ((ft_28 = 7) → mthr (sp_wtk2 t p s F X kz Q kC kZ) [.inr (.inr (some t)), .inl p, .inl s] S 0 S_24 (0 + 1 + 1 + (addNC (nc_dU B_20) (kz_15 45) 0 + kC_22) + 1) (0 + 6 + 6 + (addNS (nc_dU B_20) (kz_15 45) 0 + kZ_23) + 6)) ∧ ((1 ≤ ft_28 ∧ ft_28 ≤ 4) → mthr (sp_wtk2 t p s F X kz Q kC kZ) [.inr (.inr (some t)), .inl p, .inl s] S 1 S_24 (0 + 1 + 1 + (addNC (nc_dU B_20) (kz_15 45) 0 + kC_22) + 1) (0 + 6 + 6 + (addNS (nc_dU B_20) (kz_15 45) 0 + kZ_23) + 6))))))))))))) ∧ ((mI S_7 201 a_9) = 0 → (mthr (sp_wtk2 t p s F X kz Q kC kZ) [.inr (.inr (some t)), .inl p, .inl s] S 2 S_7 (0 + 1 + 1 + 1) (0 + 6 + 6 + 6)))))) ∧ ((np 8 s) → mthr (sp_wtk2 t p s F X kz Q kC kZ) [.inr (.inr (some t)), .inl p, .inl s] S 1 S_3 (0 + 1 + 1) (0 + 6 + 6)))))) ∧ ((np 4 p) → mthr (sp_wtk2 t p s F X kz Q kC kZ) [.inr (.inr (some t)), .inl p, .inl s] S 1 S (0 + 1) (0 + 6)))))
    obtain ⟨⟨z, hz⟩, hK⟩ := hp
    have cst : ∀ a d : Nat, a ≤ nc_i (∃ n i, tkA Q p s n i ∧ Q.sl i ≠ []) (nc_kC kz (Q.sl s.toNatClampNeg) + kC) + 4 → d ≤ nc_i (∃ n i, tkA Q p s n i ∧ Q.sl i ≠ []) (nc_kZ kz (Q.sl s.toNatClampNeg) + kZ) + 24 → a ≤ (sp_wtk2 t p s F X kz Q kC kZ).2.1 [.inr (.inr (some t)), .inl p, .inl s] S ∧ d ≤ (sp_wtk2 t p s F X kz Q kC kZ).2.2.1 [.inr (.inr (some t)), .inl p, .inl s] S := fun a d h1 h2 => ⟨h1, h2⟩
    refine ⟨rfl, F, z, hz.1.1, by omega, by omega, fun v S3 h => ?_, fun h => ⟨Or.inl ⟨rfl, Or.inl h, rfl⟩, cst _ _ (by omega) (by omega)⟩⟩
    obtain ⟨rfl, n, hn, hpn, rfl⟩ := h
    refine ⟨rfl, F, z, hz.1.1, by omega, by omega, fun v S4 h => ?_, fun h => ⟨Or.inl ⟨rfl, Or.inr h, rfl⟩, cst _ _ (by omega) (by omega)⟩⟩
    obtain ⟨rfl, i, hi, hsi, rfl⟩ := h
    have ci : s.toNatClampNeg = i := by rw [hsi]; exact nI_clamp (by omega)
    rw [ci] at cst ⊢
    have tA : tkA Q p s n i := ⟨hn, hpn, hi, hsi⟩
    obtain ⟨d, hB⟩ := hz.2.2.2.2.1 i hi
    have m1 : mI S4 201 (z (20 + i)) = nI (Q.sl i).length := hB.1.2.2.2.1
    have hl := hB.1.len
    refine pa_i rfl ⟨hB.1.1, ?_⟩
    rw [m1]
    refine ⟨fun q0 => ?_, fun q0 => ⟨Or.inr (Or.inl ⟨rfl, ⟨n, i, tA, ?_⟩, rfl⟩), cst _ _ (by omega) (by omega)⟩⟩
    · have hne : Q.sl i ≠ [] := fun e => q0 (by rw [e]; rfl)
      have nC := nc_it (P := ∃ n i, tkA Q p s n i ∧ Q.sl i ≠ []) (a := nc_kC kz (Q.sl i) + kC) ⟨n, i, tA, hne⟩
      have nZ := nc_it (P := ∃ n i, tkA Q p s n i ∧ Q.sl i ≠ []) (a := nc_kZ kz (Q.sl i) + kZ) ⟨n, i, tA, hne⟩
      refine ⟨rfl, pa_i rfl (pa_i rfl ⟨F, z, X, kz, Q, n, 50 + i, d, Q.sl i, kz (20 + i), kC, kZ, ⟨hz, hn, rfl, hB, Or.inr (Or.inr ⟨by omega, by omega⟩), hK n i tA⟩, by rw [nC]; unfold nc_kC; omega, by rw [nZ]; unfold nc_kZ; omega, fun v S5 h5 => ?_⟩)⟩
      obtain ⟨c, F5, X1, Q1, rfl, hc8, hd, w1, w2, w3⟩ := h5
      have wq : wtQ S4 S5 F t X1 (nc_tK kz (Q.sl i)) (id Q1) := ⟨F5, ⟨z, w1⟩, w2, w3.mono (fun b _ e => e.1)⟩
      refine ⟨rfl, F5, z, Q1.ft, Q1.fo, Q1.mp, Q1.ms, ⟨w1.1.1.1, w1.1.2.1⟩, by rw [nC]; unfold nc_kC; omega, by rw [nZ]; unfold nc_kZ; omega, fun S6 h6 => ?_, fun e => ⟨Or.inr (Or.inr (Or.inl ⟨rfl, n, i, c, tA, hne, Q1, X1, hd, e, wq⟩)), cst _ _ (by rw [nC]; unfold nc_kC; omega) (by rw [nZ]; unfold nc_kZ; omega)⟩, fun e => ⟨Or.inr (Or.inr (Or.inr (Or.inl ⟨rfl, n, i, c, tA, hne, Q1, X1, hd, e, wq⟩))), cst _ _ (by rw [nC]; unfold nc_kC; omega) (by rw [nZ]; unfold nc_kZ; omega)⟩, fun e => ⟨Or.inr (Or.inr (Or.inr (Or.inr (Or.inl ⟨rfl, n, i, c, tA, hne, Q1, X1, hd, e, wq⟩)))), cst _ _ (by rw [nC]; unfold nc_kC; omega) (by rw [nZ]; unfold nc_kZ; omega)⟩, fun e => ⟨Or.inr (Or.inr (Or.inr (Or.inr (Or.inr ⟨rfl, n, i, c, tA, hne, Q1, X1, hd, e, wq⟩)))), cst _ _ (by rw [nC]; unfold nc_kC; omega) (by rw [nZ]; unfold nc_kZ; omega)⟩⟩
      obtain ⟨rfl, e⟩ := h6
      exact ⟨rfl, trivial, ⟨_, rfl, n, i, c, tA, hne, rfl, hc8, Q1, X1, hd, e, wq⟩, cst _ _ (by rw [nC]; unfold nc_kC; omega) (by rw [nZ]; unfold nc_kZ; omega)⟩
    · have := (nI_eq (a := (Q.sl i).length) (b := 0) (by omega) (by decide)).1 q0
      exact List.eq_nil_of_length_eq_zero this
  · exact fun _ _ _ _ _ h => by cases h
theorem u_wtk2 (l : Launch) (hlt : l.stackTraces = false) : UsX l yX11_take (Cond.code yX11_take cX11_take 6 (some .int)) (some .int) 11 271 12 T_wtk2 := by
  intro Rc Rs av S cs sl K Kx h
  unfold T_wtk2 at h
  split at h
  · rename_i t_o p s
    obtain ⟨t, rfl, h_1⟩ := pa_of h
    obtain ⟨F, X, kz, Q, kC, kZ, hp, hc, hs, hk, hx0, hx1, hx2, hx3, hx4, hx5⟩ := h_1
    refine ⟨(sp_wtk2 t p s F X kz Q kC kZ), c_wtk2 l hlt t p s F X kz Q kC kZ, fun _ _ h9 => ⟨_, _, h9.1, h9.2.1.choose_spec.1.1.1⟩, ⟨rfl, hp⟩, hc, hs, fun v9 S' h8 => by
      obtain ⟨v8, h7, h8⟩ := h8
      cases h7
      exact hk _ _ h8, fun _ _ q => by
      rcases q with ⟨rfl, q⟩ | ⟨rfl, q⟩ | ⟨rfl, q⟩ | ⟨rfl, q⟩ | ⟨rfl, q⟩ | ⟨rfl, q⟩
      · obtain ⟨q, rfl⟩ := q
        exact hx0 q
      · obtain ⟨q, rfl⟩ := q
        exact hx1 q
      · exact hx2 _ q
      · exact hx3 _ q
      · exact hx4 _ q
      · exact hx5 _ q⟩
  · exact h.elim
def T_wld2 : TR := fun Rc Rs av S cs sl K Kx => match av with
  | [.inr (.inr t_o), .inl p] => pa t_o fun t => (∃ (F : Nat → Nat × Nat) (X : Nat → GX) (kz : Nat → Nat) (Q : Ab) (kC kZ : Nat), (WT S F t X kz Q ∧ ldB Q p kC kZ) ∧ cs + (nc_i (∃ n, n < 4 ∧ p = nI n) (nc_kC kz Q.tp + kC) + 2) ≤ Rc ∧ sl + (nc_i (∃ n, n < 4 ∧ p = nI n) (nc_kZ kz Q.tp + kZ) + 12) ≤ Rs ∧ ((∀ (v : Int32) (S' : MM), (∃ n c, n < 4 ∧ p = nI n ∧ v = nI c ∧ c ≤ 8192 ∧ tkR S S' F t kz (Q.sFo 1) n Q.tp (fun f => f = 0) noT c) → K (some (.inl v)) S' (cs + (nc_i (∃ n, n < 4 ∧ p = nI n) (nc_kC kz Q.tp + kC) + 2)) (sl + (nc_i (∃ n, n < 4 ∧ p = nI n) (nc_kZ kz Q.tp + kZ) + 12))) ∧ ((np 4 p) → Kx 1 S (cs + (nc_i (∃ n, n < 4 ∧ p = nI n) (nc_kC kz Q.tp + kC) + 2)) (sl + (nc_i (∃ n, n < 4 ∧ p = nI n) (nc_kZ kz Q.tp + kZ) + 12))) ∧ (∀ (S' : MM), (∃ n c, n < 4 ∧ p = nI n ∧ tkR S S' F t kz (Q.sFo 1) n Q.tp (fun f => f = 5) noT c) → Kx 2 S' (cs + (nc_i (∃ n, n < 4 ∧ p = nI n) (nc_kC kz Q.tp + kC) + 2)) (sl + (nc_i (∃ n, n < 4 ∧ p = nI n) (nc_kZ kz Q.tp + kZ) + 12))) ∧ (∀ (S' : MM), (∃ n c, n < 4 ∧ p = nI n ∧ tkR S S' F t kz (Q.sFo 1) n Q.tp (fun f => f = 6) noT c) → Kx 3 S' (cs + (nc_i (∃ n, n < 4 ∧ p = nI n) (nc_kC kz Q.tp + kC) + 2)) (sl + (nc_i (∃ n, n < 4 ∧ p = nI n) (nc_kZ kz Q.tp + kZ) + 12))) ∧ (∀ (S' : MM), (∃ n c, n < 4 ∧ p = nI n ∧ tkR S S' F t kz (Q.sFo 1) n Q.tp (fun f => f = 7) noT c) → Kx 0 S' (cs + (nc_i (∃ n, n < 4 ∧ p = nI n) (nc_kC kz Q.tp + kC) + 2)) (sl + (nc_i (∃ n, n < 4 ∧ p = nI n) (nc_kZ kz Q.tp + kZ) + 12))) ∧ (∀ (S' : MM), (∃ n c, n < 4 ∧ p = nI n ∧ tkR S S' F t kz (Q.sFo 1) n Q.tp (fun f => 1 ≤ f ∧ f ≤ 4) noT c) → Kx 1 S' (cs + (nc_i (∃ n, n < 4 ∧ p = nI n) (nc_kC kz Q.tp + kC) + 2)) (sl + (nc_i (∃ n, n < 4 ∧ p = nI n) (nc_kZ kz Q.tp + kZ) + 12)))))
  | _ => False
noncomputable def sp_wld2 (t : Nat) (p : Int32) (F : Nat → Nat × Nat) (X : Nat → GX) (kz : Nat → Nat) (Q : Ab) (kC kZ : Nat) : Sp := (fun av S => av = [.inr (.inr (some t)), .inl p] ∧ (WT S F t X kz Q ∧ ldB Q p kC kZ), fun _ S => nc_i (∃ n, n < 4 ∧ p = nI n) (nc_kC kz Q.tp + kC) + 2, fun _ S => nc_i (∃ n, n < 4 ∧ p = nI n) (nc_kZ kz Q.tp + kZ) + 12, fun _ S rv S' => ∃ v, rv = (some (.inl v)) ∧ (∃ n c, n < 4 ∧ p = nI n ∧ v = nI c ∧ c ≤ 8192 ∧ tkR S S' F t kz (Q.sFo 1) n Q.tp (fun f => f = 0) noT c), fun _ S E S' => (E = 1 ∧ (np 4 p) ∧ S' = S) ∨ (E = 2 ∧ (∃ n c, n < 4 ∧ p = nI n ∧ tkR S S' F t kz (Q.sFo 1) n Q.tp (fun f => f = 5) noT c)) ∨ (E = 3 ∧ (∃ n c, n < 4 ∧ p = nI n ∧ tkR S S' F t kz (Q.sFo 1) n Q.tp (fun f => f = 6) noT c)) ∨ (E = 0 ∧ (∃ n c, n < 4 ∧ p = nI n ∧ tkR S S' F t kz (Q.sFo 1) n Q.tp (fun f => f = 7) noT c)) ∨ (E = 1 ∧ (∃ n c, n < 4 ∧ p = nI n ∧ tkR S S' F t kz (Q.sFo 1) n Q.tp (fun f => 1 ≤ f ∧ f ≤ 4) noT c)))
set_option maxRecDepth 100000 in
set_option maxHeartbeats 2000000 in
theorem c_wld2 (l : Launch) (hlt : l.stackTraces = false) : ∀ (t : Nat) (p : Int32) (F : Nat → Nat × Nat) (X : Nat → GX) (kz : Nat → Nat) (Q : Ab) (kC kZ : Nat), CtX l yX11_load (Cond.code yX11_load cX11_load 4 (some .int)) (some .int) 11 271 (sp_wld2 t p F X kz Q kC kZ) := by
  intro t p F X kz Q kC kZ
  refine CtX.of hlt (fX11, nX11, aX11, iX11, lX11, [(108, 0, 2, 3, T_wpo), (264, 0, 3, 1, T_wdv), (133, 0, 1, 0, T_bclr), (268, 0, 1, 0, T_wrf)], qX11, gX11, []) false tX11_load (fun _ _ _ => none) (by decide) (by decide) kX11_load ⟨_, _, rfl⟩ fX11_ok nX11_ok aX11_ok iX11_ok lX11_ok (fun p e R s m args below meth c Q D cy z r A C hR1 hR2 => List.forall_mem_cons.mpr ⟨cOK_use (fun _ _ _ _ _ _ _ _ h => let ⟨sp, h1, h2, h3⟩ := u_wpo l hlt _ _ _ _ _ _ _ _ h; ⟨sp, cOKx_V C h1 vX11_load_108 ⟨by decide, by decide, by decide +kernel⟩ ⟨by rw [hR1]; decide, by rw [hR2]; decide⟩ (k := 12) (T := TX11) (N := 15) rfl (by decide) h2, h3⟩), List.forall_mem_cons.mpr ⟨cOK_use (fun _ _ _ _ _ _ _ _ h => let ⟨sp, h1, h2, h3⟩ := u_wdv l _ _ _ _ _ _ _ _ h; ⟨sp, cOK_V C h1 vX11_load_264 ⟨by decide, by decide, by decide +kernel⟩ ⟨by rw [hR1]; decide, by rw [hR2]; decide⟩ (k := 12) (T := TX11) (N := 15) rfl (by decide) h2, h3⟩), List.forall_mem_cons.mpr ⟨cOK_use (fun _ _ _ _ _ _ _ _ h => let ⟨sp, h1, h2, h3⟩ := u_bclr l _ _ _ _ _ _ _ _ h; ⟨sp, cOK_V C h1 vX11_load_133 ⟨by decide, by decide, by decide +kernel⟩ ⟨by rw [hR1]; decide, by rw [hR2]; decide⟩ (k := 2) (T := TX1) (N := 3) rfl (by decide) h2, h3⟩), List.forall_mem_cons.mpr ⟨cOK_use (fun _ _ _ _ _ _ _ _ h => let ⟨sp, h1, h2, h3⟩ := u_wrf l hlt _ _ _ _ _ _ _ _ h; ⟨sp, cOKx_V C h1 vX11_load_268 ⟨by decide, by decide, by decide +kernel⟩ ⟨by rw [hR1]; decide, by rw [hR2]; decide⟩ (k := 12) (T := TX11) (N := 15) rfl (by decide) h2, h3⟩), fun _ h => absurd h List.not_mem_nil⟩⟩⟩⟩) qX11_ok gX11_ok (fun _ h => absurd h List.not_mem_nil) ?_ ?_
  · rintro _ S ⟨rfl, hp⟩
    refine ⟨Nat.le_of_ble_eq_true rfl, 300, ?_⟩
    show (0 = 0 ∧ (∃ (F_1 : Nat → Nat × Nat) (z_2 : Nat → Nat), (SfA S F_1 t z_2) ∧ 0 + 1 ≤ nc_i (∃ n, n < 4 ∧ p = nI n) (nc_kC kz Q.tp + kC) + 2 ∧ 0 + 6 ≤ nc_i (∃ n, n < 4 ∧ p = nI n) (nc_kZ kz Q.tp + kZ) + 12 ∧ ((∀ (x_4 : Option Nat) (S_3 : MM), (S_3 = S ∧ ∃ n, n < 4 ∧ p = nI n ∧ x_4 = some (z_2 (30 + n))) → (True ∧ (isO S_3 12 t ∧ ((1 : Int32) = 0 ∨ (1 : Int32) = 1) ∧ (isO (sI S_3 1207 t (1 : Int32)) 12 t ∧ (0 = 0 ∧ ((pa x_4 fun a_5 => ((pa (mR (sI S_3 1207 t (1 : Int32)) 1200 t) fun a_6 => (∃ (F_7 : Nat → Nat × Nat) (z_8 : Nat → Nat) (X_9 : Nat → GX) (kz_10 : Nat → Nat) (Q_11 : Ab) (n_12 j_13 d_14 : Nat) (B_15 : List Nat) (nn_16 kC_17 kZ_18 : Nat), (dvP (sI S_3 1207 t (1 : Int32)) F_7 t z_8 X_9 kz_10 Q_11 n_12 j_13 a_5 a_6 d_14 B_15 nn_16 kC_17 kZ_18) ∧ 0 + 1 + (addNC (nc_dU B_15) (kz_10 45) 0 + kC_17) ≤ nc_i (∃ n, n < 4 ∧ p = nI n) (nc_kC kz Q.tp + kC) + 2 ∧ 0 + 6 + (addNS (nc_dU B_15) (kz_10 45) 0 + kZ_18) ≤ nc_i (∃ n, n < 4 ∧ p = nI n) (nc_kZ kz Q.tp + kZ) + 12 ∧ (∀ (x_20 : Int32) (S_19 : MM), (dvQ (sI S_3 1207 t (1 : Int32)) S_19 F_7 t z_8 kz_10 Q_11 n_12 j_13 B_15 x_20) → (isO S_19 12 t ∧ (0 = 0 ∧ ((pa (mR S_19 1200 t) fun a_21 => ((isO S_19 2 a_21) ∧ 0 + 1 + (addNC (nc_dU B_15) (kz_10 45) 0 + kC_17) ≤ nc_i (∃ n, n < 4 ∧ p = nI n) (nc_kC kz Q.tp + kC) + 2 ∧ 0 + 6 + (addNS (nc_dU B_15) (kz_10 45) 0 + kZ_18) ≤ nc_i (∃ n, n < 4 ∧ p = nI n) (nc_kZ kz Q.tp + kZ) + 12 ∧ ((0 = 0 ∧ (∃ (F_23 : Nat → Nat × Nat) (z_24 : Nat → Nat) (ft_25 fo_26 : Nat) (mp_27 : Nat → Option Nat) (ms_28 : Nat → Nat), (isO (clr S_19 a_21) 12 t ∧ SfB (clr S_19 a_21) F_23 t z_24 ft_25 fo_26 mp_27 ms_28) ∧ 0 + 1 + (addNC (nc_dU B_15) (kz_10 45) 0 + kC_17) + 1 ≤ nc_i (∃ n, n < 4 ∧ p = nI n) (nc_kC kz Q.tp + kC) + 2 ∧ 0 + 6 + (addNS (nc_dU B_15) (kz_10 45) 0 + kZ_18) + 6 ≤ nc_i (∃ n, n < 4 ∧ p = nI n) (nc_kZ kz Q.tp + kZ) + 12 ∧ ((∀ (S_29 : MM), (S_29 = (clr S_19 a_21) ∧ ft_25 = 0) → (([] : List MV) = [] ∧ mret (some .int) (sp_wld2 t p F X kz Q kC kZ) [.inr (.inr (some t)), .inl p] S (some (.inl x_20)) S_29 (0 + 1 + (addNC (nc_dU B_15) (kz_10 45) 0 + kC_17) + 1) (0 + 6 + (addNS (nc_dU B_15) (kz_10 45) 0 + kZ_18) + 6))) ∧ ((ft_25 = 5) → mthr (sp_wld2 t p F X kz Q kC kZ) [.inr (.inr (some t)), .inl p] S 2 (clr S_19 a_21) (0 + 1 + (addNC (nc_dU B_15) (kz_10 45) 0 + kC_17) + 1) (0 + 6 + (addNS (nc_dU B_15) (kz_10 45) 0 + kZ_18) + 6)) ∧ ((ft_25 = 6) → mthr (sp_wld2 t p F X kz Q kC kZ) [.inr (.inr (some t)), .inl p] S 3 (clr S_19 a_21) (0 + 1 + (addNC (nc_dU B_15) (kz_10 45) 0 + kC_17) + 1) (0 + 6 + (addNS (nc_dU B_15) (kz_10 45) 0 + kZ_18) + 6)) ∧ ((ft_25 = 7) → mthr (sp_wld2 t p F X kz Q kC kZ) [.inr (.inr (some t)), .inl p] S 0 (clr S_19 a_21) (0 + 1 + (addNC (nc_dU B_15) (kz_10 45) 0 + kC_17) + 1) (0 + 6 + (addNS (nc_dU B_15) (kz_10 45) 0 + kZ_18) + 6)) ∧ ((1 ≤ ft_25 ∧ ft_25 ≤ 4) → mthr (sp_wld2 t p F X kz Q kC kZ) [.inr (.inr (some t)), .inl p] S 1 (clr S_19 a_21) (0 + 1 + (addNC (nc_dU B_15) (kz_10 45) 0 + kC_17) + 1) (0 + 6 + (addNS (nc_dU B_15) (kz_10 45) 0 + kZ_18) + 6)))))))))))))))))))))) ∧ ((np 4 p) → mthr (sp_wld2 t p F X kz Q kC kZ) [.inr (.inr (some t)), .inl p] S 1 S (0 + 1) (0 + 6)))))
    obtain ⟨⟨z, hz⟩, hK⟩ := hp
    have cst : ∀ a d : Nat, a ≤ nc_i (∃ n, n < 4 ∧ p = nI n) (nc_kC kz Q.tp + kC) + 2 → d ≤ nc_i (∃ n, n < 4 ∧ p = nI n) (nc_kZ kz Q.tp + kZ) + 12 → a ≤ (sp_wld2 t p F X kz Q kC kZ).2.1 [.inr (.inr (some t)), .inl p] S ∧ d ≤ (sp_wld2 t p F X kz Q kC kZ).2.2.1 [.inr (.inr (some t)), .inl p] S := fun a d h1 h2 => ⟨h1, h2⟩
    refine ⟨rfl, F, z, hz.1.1, by omega, by omega, fun v S3 h => ?_, fun h => ⟨Or.inl ⟨rfl, h, rfl⟩, cst _ _ (by omega) (by omega)⟩⟩
    obtain ⟨rfl, n, hn, hpn, rfl⟩ := h
    have nC := nc_it (P := ∃ n, n < 4 ∧ p = nI n) (a := nc_kC kz Q.tp + kC) ⟨n, hn, hpn⟩
    have nZ := nc_it (P := ∃ n, n < 4 ∧ p = nI n) (a := nc_kZ kz Q.tp + kZ) ⟨n, hn, hpn⟩
    obtain ⟨y1, y2⟩ := hz.flag (f := 1) (by decide)
    obtain ⟨d, hB⟩ := y1.2.2.1
    have r0 : mR (sI S3 1207 t 1) 1200 t = some (z 0) := y1.1.1.2.2.1 0 (by decide) (by decide) (by decide) (by decide)
    refine ⟨trivial, hz.1.1.1, Or.inr rfl, y1.1.1.1, rfl, pa_i rfl (pa_i r0 ⟨F, z, X, kz, Q.sFo 1, n, 21, d, Q.tp, kz 0, kC, kZ, ⟨y1, hn, rfl, hB, Or.inl rfl, hK n hn hpn⟩, by rw [nC]; unfold nc_kC; omega, by rw [nZ]; unfold nc_kZ; omega, fun v S5 h5 => ?_⟩)⟩
    obtain ⟨c, F5, X1, Q1, rfl, hc8, hd, w1, w2, w3⟩ := h5
    obtain ⟨v1, v2⟩ := w1.clrT
    obtain ⟨d5, hB5⟩ := w1.2.2.1
    have r5 : mR S5 1200 t = some (z 0) := w1.1.1.2.2.1 0 (by decide) (by decide) (by decide) (by decide)
    have wq : wtQ S3 (clr S5 (z 0)) F t X1 (nc_tK kz Q.tp) (noT Q1) := ⟨F5, ⟨z, v1⟩, fun b hb => w2 b (y2.1 b hb).1, ((y2.mono (fun b _ e => by show cO (F b).1; rw [e]; exact ⟨by decide, by decide⟩)).trN w3 (fun b hb e => e.1)).trN v2 (fun b hb e => by
      show cO (F b).1
      rw [← w2 b (y2.1 b hb).1, e]; exact ⟨by decide, by decide⟩)⟩
    refine ⟨w1.1.1.1, rfl, pa_i r5 ⟨hB5.1.1, by rw [nC]; unfold nc_kC; omega, by rw [nZ]; unfold nc_kZ; omega, rfl, F5, z, Q1.ft, Q1.fo, Q1.mp, Q1.ms, ⟨v1.1.1.1, v1.1.2.1⟩, by rw [nC]; unfold nc_kC; omega, by rw [nZ]; unfold nc_kZ; omega, fun S6 h6 => ?_, fun e => ⟨Or.inr (Or.inl ⟨rfl, n, c, hn, hpn, Q1, X1, hd, e, wq⟩), cst _ _ (by rw [nC]; unfold nc_kC; omega) (by rw [nZ]; unfold nc_kZ; omega)⟩, fun e => ⟨Or.inr (Or.inr (Or.inl ⟨rfl, n, c, hn, hpn, Q1, X1, hd, e, wq⟩)), cst _ _ (by rw [nC]; unfold nc_kC; omega) (by rw [nZ]; unfold nc_kZ; omega)⟩, fun e => ⟨Or.inr (Or.inr (Or.inr (Or.inl ⟨rfl, n, c, hn, hpn, Q1, X1, hd, e, wq⟩))), cst _ _ (by rw [nC]; unfold nc_kC; omega) (by rw [nZ]; unfold nc_kZ; omega)⟩, fun e => ⟨Or.inr (Or.inr (Or.inr (Or.inr ⟨rfl, n, c, hn, hpn, Q1, X1, hd, e, wq⟩))), cst _ _ (by rw [nC]; unfold nc_kC; omega) (by rw [nZ]; unfold nc_kZ; omega)⟩⟩⟩
    obtain ⟨rfl, e⟩ := h6
    exact ⟨rfl, trivial, ⟨_, rfl, n, c, hn, hpn, rfl, hc8, Q1, X1, hd, e, wq⟩, cst _ _ (by rw [nC]; unfold nc_kC; omega) (by rw [nZ]; unfold nc_kZ; omega)⟩
  · exact fun _ _ _ _ _ h => by cases h
theorem u_wld2 (l : Launch) (hlt : l.stackTraces = false) : UsX l yX11_load (Cond.code yX11_load cX11_load 4 (some .int)) (some .int) 11 271 12 T_wld2 := by
  intro Rc Rs av S cs sl K Kx h
  unfold T_wld2 at h
  split at h
  · rename_i t_o p
    obtain ⟨t, rfl, h_1⟩ := pa_of h
    obtain ⟨F, X, kz, Q, kC, kZ, hp, hc, hs, hk, hx0, hx1, hx2, hx3, hx4⟩ := h_1
    refine ⟨(sp_wld2 t p F X kz Q kC kZ), c_wld2 l hlt t p F X kz Q kC kZ, fun _ _ h9 => ⟨_, _, h9.1, h9.2.1.choose_spec.1.1.1⟩, ⟨rfl, hp⟩, hc, hs, fun v9 S' h8 => by
      obtain ⟨v8, h7, h8⟩ := h8
      cases h7
      exact hk _ _ h8, fun _ _ q => by
      rcases q with ⟨rfl, q⟩ | ⟨rfl, q⟩ | ⟨rfl, q⟩ | ⟨rfl, q⟩ | ⟨rfl, q⟩
      · obtain ⟨q, rfl⟩ := q
        exact hx0 q
      · exact hx1 _ q
      · exact hx2 _ q
      · exact hx3 _ q
      · exact hx4 _ q⟩
  · exact h.elim
def T_wsy2 : TR := fun Rc Rs av S cs sl K Kx => match av with
  | [.inr (.inr t_o), .inl p, .inl x] => pa t_o fun t => (∃ (F : Nat → Nat × Nat) (X : Nat → GX) (kz : Nat → Nat) (Q : Ab) (kC kZ : Nat), (WT S F t X kz Q ∧ syBd Q p x kC kZ) ∧ cs + (nc_i (∃ n m, syA p x n m) (nc_syC kz Q p.toNatClampNeg x.toNatClampNeg kC) + 4) ≤ Rc ∧ sl + (nc_i (∃ n m, syA p x n m) (nc_syZ kz Q p.toNatClampNeg x.toNatClampNeg kZ) + 24) ≤ Rs ∧ ((∀ (v : Int32) (S' : MM), (∃ n m c, syA p x n m ∧ v = nI c ∧ c ≤ 8192 ∧ syR S S' F t kz Q n m (fun f => f = 0) c) → K (some (.inl v)) S' (cs + (nc_i (∃ n m, syA p x n m) (nc_syC kz Q p.toNatClampNeg x.toNatClampNeg kC) + 4)) (sl + (nc_i (∃ n m, syA p x n m) (nc_syZ kz Q p.toNatClampNeg x.toNatClampNeg kZ) + 24))) ∧ ((np 4 p ∨ np 4 x) → Kx 1 S (cs + (nc_i (∃ n m, syA p x n m) (nc_syC kz Q p.toNatClampNeg x.toNatClampNeg kC) + 4)) (sl + (nc_i (∃ n m, syA p x n m) (nc_syZ kz Q p.toNatClampNeg x.toNatClampNeg kZ) + 24))) ∧ (∀ (S' : MM), (∃ (n m : Nat) (X1 : Nat → GX), syA p x n m ∧ 32768 < paT (Q.G n) (nc_syN Q n m) (some m) ∧ wtQ S S' F t X1 (nc_sy4 kz Q n m) (nc_syQ Q n m)) → Kx 0 S' (cs + (nc_i (∃ n m, syA p x n m) (nc_syC kz Q p.toNatClampNeg x.toNatClampNeg kC) + 4)) (sl + (nc_i (∃ n m, syA p x n m) (nc_syZ kz Q p.toNatClampNeg x.toNatClampNeg kZ) + 24))) ∧ (∀ (S' : MM), (∃ n m c, syA p x n m ∧ syR S S' F t kz Q n m (fun f => f = 5) c) → Kx 2 S' (cs + (nc_i (∃ n m, syA p x n m) (nc_syC kz Q p.toNatClampNeg x.toNatClampNeg kC) + 4)) (sl + (nc_i (∃ n m, syA p x n m) (nc_syZ kz Q p.toNatClampNeg x.toNatClampNeg kZ) + 24))) ∧ (∀ (S' : MM), (∃ n m c, syA p x n m ∧ syR S S' F t kz Q n m (fun f => f = 6) c) → Kx 3 S' (cs + (nc_i (∃ n m, syA p x n m) (nc_syC kz Q p.toNatClampNeg x.toNatClampNeg kC) + 4)) (sl + (nc_i (∃ n m, syA p x n m) (nc_syZ kz Q p.toNatClampNeg x.toNatClampNeg kZ) + 24))) ∧ (∀ (S' : MM), (∃ n m c, syA p x n m ∧ syR S S' F t kz Q n m (fun f => f = 7) c) → Kx 0 S' (cs + (nc_i (∃ n m, syA p x n m) (nc_syC kz Q p.toNatClampNeg x.toNatClampNeg kC) + 4)) (sl + (nc_i (∃ n m, syA p x n m) (nc_syZ kz Q p.toNatClampNeg x.toNatClampNeg kZ) + 24))) ∧ (∀ (S' : MM), (∃ n m c, syA p x n m ∧ syR S S' F t kz Q n m (fun f => 1 ≤ f ∧ f ≤ 4) c) → Kx 1 S' (cs + (nc_i (∃ n m, syA p x n m) (nc_syC kz Q p.toNatClampNeg x.toNatClampNeg kC) + 4)) (sl + (nc_i (∃ n m, syA p x n m) (nc_syZ kz Q p.toNatClampNeg x.toNatClampNeg kZ) + 24)))))
  | _ => False
noncomputable def sp_wsy2 (t : Nat) (p : Int32) (x : Int32) (F : Nat → Nat × Nat) (X : Nat → GX) (kz : Nat → Nat) (Q : Ab) (kC kZ : Nat) : Sp := (fun av S => av = [.inr (.inr (some t)), .inl p, .inl x] ∧ (WT S F t X kz Q ∧ syBd Q p x kC kZ), fun _ S => nc_i (∃ n m, syA p x n m) (nc_syC kz Q p.toNatClampNeg x.toNatClampNeg kC) + 4, fun _ S => nc_i (∃ n m, syA p x n m) (nc_syZ kz Q p.toNatClampNeg x.toNatClampNeg kZ) + 24, fun _ S rv S' => ∃ v, rv = (some (.inl v)) ∧ (∃ n m c, syA p x n m ∧ v = nI c ∧ c ≤ 8192 ∧ syR S S' F t kz Q n m (fun f => f = 0) c), fun _ S E S' => (E = 1 ∧ (np 4 p ∨ np 4 x) ∧ S' = S) ∨ (E = 0 ∧ (∃ (n m : Nat) (X1 : Nat → GX), syA p x n m ∧ 32768 < paT (Q.G n) (nc_syN Q n m) (some m) ∧ wtQ S S' F t X1 (nc_sy4 kz Q n m) (nc_syQ Q n m))) ∨ (E = 2 ∧ (∃ n m c, syA p x n m ∧ syR S S' F t kz Q n m (fun f => f = 5) c)) ∨ (E = 3 ∧ (∃ n m c, syA p x n m ∧ syR S S' F t kz Q n m (fun f => f = 6) c)) ∨ (E = 0 ∧ (∃ n m c, syA p x n m ∧ syR S S' F t kz Q n m (fun f => f = 7) c)) ∨ (E = 1 ∧ (∃ n m c, syA p x n m ∧ syR S S' F t kz Q n m (fun f => 1 ≤ f ∧ f ≤ 4) c)))
set_option maxRecDepth 100000 in
set_option maxHeartbeats 2000000 in
theorem c_wsy2 (l : Launch) (hlt : l.stackTraces = false) : ∀ (t : Nat) (p : Int32) (x : Int32) (F : Nat → Nat × Nat) (X : Nat → GX) (kz : Nat → Nat) (Q : Ab) (kC kZ : Nat), CtX l yX11_sync (Cond.code yX11_sync cX11_sync 6 (some .int)) (some .int) 11 271 (sp_wsy2 t p x F X kz Q kC kZ) := by
  intro t p x F X kz Q kC kZ
  refine CtX.of hlt (fX11, nX11, aX11, iX11, lX11, [(108, 0, 2, 3, T_wpo), (246, 0, 2, 0, T_pws), (264, 0, 3, 1, T_wdv), (250, 0, 3, 0, T_wga), (254, 0, 3, 0, T_wco), (268, 0, 1, 0, T_wrf)], qX11, gX11, thX11) false tX11_sync (fun _ S => look [(22, ([0,1,2,3,4], I_y1 t p x F X kz Q S)), (32, ([0,1,2,3,4], I_y2 t p x F kz Q S)), (71, ([0,4], I_y3 t p x F kz Q S))]) (by decide) (by decide) kX11_sync ⟨_, _, rfl⟩ fX11_ok nX11_ok aX11_ok iX11_ok lX11_ok (fun p e R s m args below meth c Q D cy z r A C hR1 hR2 => List.forall_mem_cons.mpr ⟨cOK_use (fun _ _ _ _ _ _ _ _ h => let ⟨sp, h1, h2, h3⟩ := u_wpo l hlt _ _ _ _ _ _ _ _ h; ⟨sp, cOKx_V C h1 vX11_sync_108 ⟨by decide, by decide, by decide +kernel⟩ ⟨by rw [hR1]; decide, by rw [hR2]; decide⟩ (k := 12) (T := TX11) (N := 15) rfl (by decide) h2, h3⟩), List.forall_mem_cons.mpr ⟨cOK_use (fun _ _ _ _ _ _ _ _ h => let ⟨sp, h1, h2, h3⟩ := u_pws l _ _ _ _ _ _ _ _ h; ⟨sp, cOK_V C h1 vX11_sync_246 ⟨by decide, by decide, by decide +kernel⟩ ⟨by rw [hR1]; decide, by rw [hR2]; decide⟩ (k := 11) (T := TX10) (N := 6) rfl (by decide) h2, h3⟩), List.forall_mem_cons.mpr ⟨cOK_use (fun _ _ _ _ _ _ _ _ h => let ⟨sp, h1, h2, h3⟩ := u_wdv l _ _ _ _ _ _ _ _ h; ⟨sp, cOK_V C h1 vX11_sync_264 ⟨by decide, by decide, by decide +kernel⟩ ⟨by rw [hR1]; decide, by rw [hR2]; decide⟩ (k := 12) (T := TX11) (N := 15) rfl (by decide) h2, h3⟩), List.forall_mem_cons.mpr ⟨cOK_use (fun _ _ _ _ _ _ _ _ h => let ⟨sp, h1, h2, h3⟩ := u_wga l _ _ _ _ _ _ _ _ h; ⟨sp, cOK_V C h1 vX11_sync_250 ⟨by decide, by decide, by decide +kernel⟩ ⟨by rw [hR1]; decide, by rw [hR2]; decide⟩ (k := 10) (T := TX9) (N := 15) rfl (by decide) h2, h3⟩), List.forall_mem_cons.mpr ⟨cOK_use (fun _ _ _ _ _ _ _ _ h => let ⟨sp, h1, h2, h3⟩ := u_wco l _ _ _ _ _ _ _ _ h; ⟨sp, cOK_V C h1 vX11_sync_254 ⟨by decide, by decide, by decide +kernel⟩ ⟨by rw [hR1]; decide, by rw [hR2]; decide⟩ (k := 10) (T := TX9) (N := 15) rfl (by decide) h2, h3⟩), List.forall_mem_cons.mpr ⟨cOK_use (fun _ _ _ _ _ _ _ _ h => let ⟨sp, h1, h2, h3⟩ := u_wrf l hlt _ _ _ _ _ _ _ _ h; ⟨sp, cOKx_V C h1 vX11_sync_268 ⟨by decide, by decide, by decide +kernel⟩ ⟨by rw [hR1]; decide, by rw [hR2]; decide⟩ (k := 12) (T := TX11) (N := 15) rfl (by decide) h2, h3⟩), fun _ h => absurd h List.not_mem_nil⟩⟩⟩⟩⟩⟩) qX11_ok gX11_ok (fun q hq => ⟨thX11_ok q hq, by decide, by decide⟩) ?_ ?_
  · rintro _ S ⟨rfl, hp⟩
    refine ⟨Nat.le_of_ble_eq_true rfl, 300, ?_⟩
    show (0 = 0 ∧ (∃ (F_1 : Nat → Nat × Nat) (z_2 : Nat → Nat), (SfA S F_1 t z_2) ∧ 0 + 1 ≤ nc_i (∃ n m, syA p x n m) (nc_syC kz Q p.toNatClampNeg x.toNatClampNeg kC) + 4 ∧ 0 + 6 ≤ nc_i (∃ n m, syA p x n m) (nc_syZ kz Q p.toNatClampNeg x.toNatClampNeg kZ) + 24 ∧ ((∀ (x_4 : Option Nat) (S_3 : MM), (S_3 = S ∧ ∃ n, n < 4 ∧ p = nI n ∧ x_4 = some (z_2 (30 + n))) → (0 = 0 ∧ (∃ (F_5 : Nat → Nat × Nat) (z_6 : Nat → Nat), (SfA S_3 F_5 t z_6) ∧ 0 + 1 + 1 ≤ nc_i (∃ n m, syA p x n m) (nc_syC kz Q p.toNatClampNeg x.toNatClampNeg kC) + 4 ∧ 0 + 6 + 6 ≤ nc_i (∃ n m, syA p x n m) (nc_syZ kz Q p.toNatClampNeg x.toNatClampNeg kZ) + 24 ∧ ((∀ (x_8 : Option Nat) (S_7 : MM), (S_7 = S_3 ∧ ∃ n, n < 4 ∧ x = nI n ∧ x_8 = some (z_6 (30 + n))) → (isO S_7 12 t ∧ (0 = 0 ∧ ((pa x_8 fun a_9 => ((pa (mR S_7 1201 t) fun a_10 => (∃ (F_11 : Nat → Nat × Nat) (i_12 p_13 : Nat) (A_14 : Nat → Nat) (X_15 : GX) (G_16 : Gr) (T_17 : Tr) (H_18 : List Nat) (W_19 : Nat → Nat) (d_20 : Nat) (B_21 : List Nat), (wsP S_7 F_11 i_12 a_9 a_10 p_13 A_14 X_15 G_16 T_17 H_18 W_19 d_20 B_21) ∧ 0 + 1 + 1 + (addNC (sumA G_16 p_13).length (mN S_7 d_20) 0) ≤ nc_i (∃ n m, syA p x n m) (nc_syC kz Q p.toNatClampNeg x.toNatClampNeg kC) + 4 ∧ 0 + 6 + 6 + (addNS (sumA G_16 p_13).length (mN S_7 d_20) 0) ≤ nc_i (∃ n m, syA p x n m) (nc_syZ kz Q p.toNatClampNeg x.toNatClampNeg kZ) + 24 ∧ (∀ (S_22 : MM), (∃ d', App (clr S_7 a_10) S_22 a_10 d_20 d' [] (sumA G_16 p_13)) → (∃ k1, I_y1 t p x F X kz Q S k1 [(0, .inr (.inr (some t))), (1, .inl p), (2, .inl x), (3, .inr (.inr x_4)), (4, .inr (.inr x_8))] [] S_22 (0 + 1 + 1 + (addNC (sumA G_16 p_13).length (mN S_7 d_20) 0)) (0 + 6 + 6 + (addNS (sumA G_16 p_13).length (mN S_7 d_20) 0)))))))))))) ∧ ((np 4 x) → mthr (sp_wsy2 t p x F X kz Q kC kZ) [.inr (.inr (some t)), .inl p, .inl x] S 1 S_3 (0 + 1 + 1) (0 + 6 + 6)))))) ∧ ((np 4 p) → mthr (sp_wsy2 t p x F X kz Q kC kZ) [.inr (.inr (some t)), .inl p, .inl x] S 1 S (0 + 1) (0 + 6)))))
    obtain ⟨⟨z, hz⟩, hK⟩ := hp
    refine ⟨rfl, F, z, hz.1.1, by omega, by omega, fun v S3 h => ?_, fun h => ⟨Or.inl ⟨rfl, Or.inl h, rfl⟩, by show _ ≤ nc_i (∃ n m, syA p x n m) (nc_syC kz Q p.toNatClampNeg x.toNatClampNeg kC) + 4; omega, by show _ ≤ nc_i (∃ n m, syA p x n m) (nc_syZ kz Q p.toNatClampNeg x.toNatClampNeg kZ) + 24; omega⟩⟩
    obtain ⟨rfl, n, hn, hpn, rfl⟩ := h
    refine ⟨rfl, F, z, hz.1.1, by omega, by omega, fun v S4 h => ?_, fun h => ⟨Or.inl ⟨rfl, Or.inr h, rfl⟩, by show _ ≤ nc_i (∃ n m, syA p x n m) (nc_syC kz Q p.toNatClampNeg x.toNatClampNeg kC) + 4; omega, by show _ ≤ nc_i (∃ n m, syA p x n m) (nc_syZ kz Q p.toNatClampNeg x.toNatClampNeg kZ) + 24; omega⟩⟩
    obtain ⟨rfl, m, hm4, hxm, rfl⟩ := h
    have cn : p.toNatClampNeg = n := by rw [hpn]; exact nI_clamp (by omega)
    have cm : x.toNatClampNeg = m := by rw [hxm]; exact nI_clamp (by omega)
    rw [nc_it (P := ∃ n m, syA p x n m) ⟨n, m, hn, hpn, hm4, hxm⟩, nc_it (P := ∃ n m, syA p x n m) ⟨n, m, hn, hpn, hm4, hxm⟩, cn, cm]
    obtain ⟨A, H, W, r, a', d9, ea, kn, kr, cu, hP⟩ := hz.2.1 m hm4
    obtain ⟨dd, B0, hB⟩ := hz.2.2.2.1
    have r1 : mR S4 1201 t = some (z 1) := hz.1.1.2.2.1 1 (by decide) (by decide) (by decide) (by decide)
    have eC : addNC (sumA (Q.G m) m).length (kz 1) 0 ≤ nc_syC kz Q n m kC := by unfold nc_syC; omega
    have eZ : addNS (sumA (Q.G m) m).length (kz 1) 0 ≤ nc_syZ kz Q n m kZ := by unfold nc_syZ; omega
    refine ⟨hz.1.1.1, rfl, pa_i rfl (pa_i r1 ⟨F, m + 1, m, A, X m, Q.G m, Q.T m, H, W, dd, B0, ⟨hP.1.1, hP.1.2.2.1, hP.1.2.2.2.1, hP.gi, hz.fo, by omega, hB.1, ?_, ?_⟩, ?_, ?_, fun S5 h5 => ?_⟩)⟩
    · rw [hB.2.1]; show 22 ≠ m + 1; omega
    · rw [hB.2.2.1]; show 22 ≠ m + 1; omega
    · rw [hB.2.2.2]; omega
    · rw [hB.2.2.2]; omega
    · rw [hB.2.2.2]
      obtain ⟨d5, h5⟩ := h5
      obtain ⟨F', g1, g2, g3, g4⟩ := App.ownC hB hz.fo (by decide) h5
      have b1 : Bt S5 F' 22 (z 1) d5 (syB Q m) (syK kz Q m 1) := by unfold syK; rw [upF_s]; exact g1
      exact ⟨2, z, n, m, F', d5, rfl, ⟨hn, hpn, hm4, hxm⟩, hz.wire ⟨d5, _, b1⟩ (fun k hk => upF_o hk) g4 g2 g3, b1, g2, g4.mono (fun b _ e => by show cO (F b).1; rw [e]; exact ⟨by decide, by decide⟩), rfl, rfl, by omega, by omega⟩
  · intro av S hpre pc I hI k lo st S1 cs sl h
    obtain ⟨rfl, hp⟩ := hpre
    have hm := look_in hI
    simp only [List.mem_cons, List.not_mem_nil, or_false] at hm
    rcases hm with hm | hm | hm
    · cases hm
      obtain ⟨z, n, m, F1, d1, rfl, hA, hz, hB, hf1, hk1, rfl, rfl, rfl, rfl⟩ := h
      refine ⟨300, ?_⟩
      show (isO S1 12 t ∧ (0 = 0 ∧ ((pa (mR S1 1201 t) fun a_1 => (∃ (F_2 : Nat → Nat × Nat) (z_3 : Nat → Nat) (X_4 : Nat → GX) (kz_5 : Nat → Nat) (Q_6 : Ab) (n_7 j_8 d_9 : Nat) (B_10 : List Nat) (nn_11 kC_12 kZ_13 : Nat), (dvP S1 F_2 t z_3 X_4 kz_5 Q_6 n_7 j_8 (z (30 + n)) a_1 d_9 B_10 nn_11 kC_12 kZ_13) ∧ addNC (sumA (Q.G m) m).length (kz 1) 0 + 2 + (addNC (nc_dU B_10) (kz_5 45) 0 + kC_12) ≤ nc_i (∃ n m, syA p x n m) (nc_syC kz Q p.toNatClampNeg x.toNatClampNeg kC) + 4 ∧ addNS (sumA (Q.G m) m).length (kz 1) 0 + 12 + (addNS (nc_dU B_10) (kz_5 45) 0 + kZ_13) ≤ nc_i (∃ n m, syA p x n m) (nc_syZ kz Q p.toNatClampNeg x.toNatClampNeg kZ) + 24 ∧ (∀ (x_15 : Int32) (S_14 : MM), (dvQ S1 S_14 F_2 t z_3 kz_5 Q_6 n_7 j_8 B_10 x_15) → (∃ k1, k1 < 2 ∧ I_y2 t p x F kz Q S k1 [(0, .inr (.inr (some t))), (1, .inl p), (2, .inl x), (3, .inr (.inr (some (z (30 + n))))), (4, .inr (.inr (some (z (30 + m)))))] [] S_14 (addNC (sumA (Q.G m) m).length (kz 1) 0 + 2 + (addNC (nc_dU B_10) (kz_5 45) 0 + kC_12)) (addNS (sumA (Q.G m) m).length (kz 1) 0 + 12 + (addNS (nc_dU B_10) (kz_5 45) 0 + kZ_13)))))))))
      obtain ⟨hn, hpn, hm4, hxm⟩ := id hA
      have cn : p.toNatClampNeg = n := by rw [hpn]; exact nI_clamp (by omega)
      have cm : x.toNatClampNeg = m := by rw [hxm]; exact nI_clamp (by omega)
      rw [nc_it (P := ∃ n m, syA p x n m) ⟨n, m, hA⟩, nc_it (P := ∃ n m, syA p x n m) ⟨n, m, hA⟩, cn, cm]
      have r1 : mR S1 1201 t = some (z 1) := hz.1.1.2.2.1 1 (by decide) (by decide) (by decide) (by decide)
      have eC : addNC (sumA (Q.G m) m).length (kz 1) 0 ≤ nc_syC kz Q n m kC := by unfold nc_syC; omega
      have eZ : addNS (sumA (Q.G m) m).length (kz 1) 0 ≤ nc_syZ kz Q n m kZ := by unfold nc_syZ; omega
      have u0 : addNC (nc_dU (syB Q m)) (syK kz Q m 45) 0 = 0 := by rw [syB_u]; rfl
      have u1 : addNS (nc_dU (syB Q m)) (syK kz Q m 45) 0 = 0 := by rw [syB_u]; rfl
      refine ⟨hz.1.1.1, rfl, pa_i r1 ⟨F1, z, X, syK kz Q m, Q, n, 22, d1, syB Q m, syK kz Q m 1, 0, 0, ⟨hz, hn, rfl, hB, Or.inr (Or.inl rfl), fun _ w => absurd syB_1 w⟩, by rw [u0]; omega, by rw [u1]; omega, fun v S4 h4 => ?_⟩⟩
      obtain ⟨c, F4, X4, Q4, rfl, hc8, hd, w1, w2, w3⟩ := h4
      have e4 := nc_syQ_eq hd
      subst e4
      have ek : upF (syK kz Q m) 45 (capN (nc_dU (syB Q m)) (syK kz Q m 45) 0) = syK kz Q m := by
        rw [syB_u]
        funext l
        by_cases c : l = 45
        · rw [c, upF_s]; rfl
        · rw [upF_o c]
      rw [ek] at w1
      have hB4 : Bt S4 F4 22 (z 1) d1 (syB Q m) (syK kz Q m 1) := hB.keep w3 (fun b e w => w.2 e) w2
      rw [u0, u1]
      exact ⟨1, by decide, z, n, m, F4, X4, d1, syB Q m, rfl, hA, w1, hB4, fun b hb => (w2 b (hk1.1 b hb).1).trans (hf1 b hb), hk1.trN w3 (fun b hb w => by show cO (F b).1; rw [← hf1 b hb]; exact w.1), rfl, rfl, rfl, rfl⟩
    · cases hm
      obtain ⟨z, n, m, F1, X1, d1, B1, rfl, hA, hz, hB, hf1, hk1, rfl, rfl, rfl, rfl⟩ := h
      refine ⟨300, ?_⟩
      show (isO S1 12 t ∧ (0 = 0 ∧ ((pa (mR S1 1204 t) fun a_1 => (∃ (F_2 : Nat → Nat × Nat) (j_3 pk_4 pl_5 me_6 : Nat) (a_7 d_8 : Nat → Nat) (V_9 : Nat → List Int32) (cap_10 : Nat → Nat) (M_11 : List Nat) (i_12 : Nat) (A_13 : Nat → Nat) (X_14 : GX) (G_15 : Gr) (T_16 : Tr) (H_17 : List Nat) (W_18 : Nat → Nat) (kn_19 : Nat) (kr_20 : Nat → Nat) (Kn_21 : Nat → Nat → Nat) (oo_22 : Option Nat), (gaQr S1 F_2 j_3 a_1 pk_4 pl_5 me_6 a_7 d_8 V_9 cap_10 M_11 i_12 A_13 X_14 G_15 T_16 H_17 W_18 (z (30 + n)) kn_19 kr_20 Kn_21 oo_22 x) ∧ addNC (sumA (Q.G m) m).length (kz 1) 0 + 2 + (gaC G_15 Kn_21 oo_22 V_9 cap_10 (mN S1 (a_7 7))) ≤ nc_i (∃ n m, syA p x n m) (nc_syC kz Q p.toNatClampNeg x.toNatClampNeg kC) + 4 ∧ addNS (sumA (Q.G m) m).length (kz 1) 0 + 12 + (gaZ G_15 Kn_21 oo_22 V_9 cap_10 (mN S1 (a_7 7))) ≤ nc_i (∃ n m, syA p x n m) (nc_syZ kz Q p.toNatClampNeg x.toNatClampNeg kZ) + 24 ∧ (∀ (S_23 : MM), (gaQ S1 S_23 F_2 j_3 a_1 pk_4 pl_5 me_6 a_7 V_9 cap_10 G_15 Kn_21 oo_22) → (isO S_23 12 t ∧ (isO S_23 12 t ∧ (0 = 0 ∧ ((pa (mR S_23 1204 t) fun a_24 => ((pa (mR S_23 1201 t) fun a_25 => (∃ (F_26 : Nat → Nat × Nat) (j_27 pk_28 pl_29 me_30 : Nat) (a_31 d_32 : Nat → Nat) (V_33 : Nat → List Int32) (cap_34 : Nat → Nat) (M_35 : List Nat) (d0_36 : Nat) (B0_37 : List Nat), (coR S_23 F_26 j_27 a_24 pk_28 pl_29 me_30 a_31 d_32 V_33 cap_34 M_35 a_25 d0_36 B0_37) ∧ addNC (sumA (Q.G m) m).length (kz 1) 0 + 2 + (gaC G_15 Kn_21 oo_22 V_9 cap_10 (mN S1 (a_7 7))) + (addNC (coA V_33 p).length (mN S_23 d0_36) 0) ≤ nc_i (∃ n m, syA p x n m) (nc_syC kz Q p.toNatClampNeg x.toNatClampNeg kC) + 4 ∧ addNS (sumA (Q.G m) m).length (kz 1) 0 + 12 + (gaZ G_15 Kn_21 oo_22 V_9 cap_10 (mN S1 (a_7 7))) + (addNS (coA V_33 p).length (mN S_23 d0_36) 0) ≤ nc_i (∃ n m, syA p x n m) (nc_syZ kz Q p.toNatClampNeg x.toNatClampNeg kZ) + 24 ∧ (∀ (S_38 : MM), (∃ d', App (clr S_23 a_25) S_38 a_25 d0_36 d' [] (coA V_33 p)) → (isO S_38 12 t ∧ (pa (mR S_38 1201 t) fun a_39 => isO S_38 2 a_39 ∧ (((mI S_38 202 a_39) = 0 → (∃ k1, k1 < 1 ∧ I_y3 t p x F kz Q S k1 [(0, .inr (.inr (some t))), (4, .inr (.inr (some (z (30 + m)))))] [] S_38 (addNC (sumA (Q.G m) m).length (kz 1) 0 + 2 + (gaC G_15 Kn_21 oo_22 V_9 cap_10 (mN S1 (a_7 7))) + (addNC (coA V_33 p).length (mN S_23 d0_36) 0)) (addNS (sumA (Q.G m) m).length (kz 1) 0 + 12 + (gaZ G_15 Kn_21 oo_22 V_9 cap_10 (mN S1 (a_7 7))) + (addNS (coA V_33 p).length (mN S_23 d0_36) 0)))) ∧ (¬ (mI S_38 202 a_39) = 0 → (mthr (sp_wsy2 t p x F X kz Q kC kZ) [.inr (.inr (some t)), .inl p, .inl x] S 0 S_38 (addNC (sumA (Q.G m) m).length (kz 1) 0 + 2 + (gaC G_15 Kn_21 oo_22 V_9 cap_10 (mN S1 (a_7 7))) + (addNC (coA V_33 p).length (mN S_23 d0_36) 0) + 1) (addNS (sumA (Q.G m) m).length (kz 1) 0 + 12 + (gaZ G_15 Kn_21 oo_22 V_9 cap_10 (mN S1 (a_7 7))) + (addNS (coA V_33 p).length (mN S_23 d0_36) 0) + 6)))))))))))))))))))))
      obtain ⟨hn, hpn, hm4, hxm⟩ := id hA
      have cn : p.toNatClampNeg = n := by rw [hpn]; exact nI_clamp (by omega)
      have cm : x.toNatClampNeg = m := by rw [hxm]; exact nI_clamp (by omega)
      rw [nc_it (P := ∃ n m, syA p x n m) ⟨n, m, hA⟩, nc_it (P := ∃ n m, syA p x n m) ⟨n, m, hA⟩, cn, cm]
      obtain ⟨A, H, W, r, a', d9, ea, kn, kr, cu, hP⟩ := hz.2.1 n hn
      rw [nc_syQ_G.1, nc_syQ_G.2] at hP
      obtain ⟨pl, me, a, d, V, cap, hW, hWn, hWo⟩ := hz.2.2.2.2.2.1
      have wc := hW.2.2.2.2.2.2.2.2.2.1
      have hK : ∀ k, k < 6 → capN (V k).length (cap k) 0 = syK kz Q m (40 + k) := fun k hk => (wc k hk).2.2.2.2.symm.trans (hWn k hk)
      have r4 : mR S1 1204 t = some (z 4) := hz.1.1.2.2.1 4 (by decide) (by decide) (by decide) (by decide)
      have nf : ∀ {b u v}, F1 b = (u, v) → u ≠ 23 → (F1 b).1 ≠ 23 := fun {b u v} e hu w => hu (by rw [e] at w; exact w)
      have gq : gaQr S1 F1 23 (z 4) (z 6) pl me a d V cap [] (n + 1) A (X1 n) (Q.G n) (Q.T n) H W (z (30 + n)) kn kr (nc_syN Q n m) (some m) x := ⟨⟨hW, hP.gi, by omega, by omega⟩, hP.1.1, hP.1.2.2.2.1, hP.2.2.2.1, nf hP.1.2.1 (by omega), nf hP.2.2.2.2.2.2.1 (by omega), fun q hq => nf (hP.2.2.2.2.2.2.2.1 q hq) (by omega), hxm, fun q e => by cases e; exact hm4⟩
      obtain ⟨c1, c2⟩ := ga_cost (G := Q.G n) (Kn := nc_syN Q n m) (o := some m) hK
      have cst : ∀ a d : Nat, a ≤ nc_syC kz Q n m kC + 4 → d ≤ nc_syZ kz Q n m kZ + 24 → a ≤ (sp_wsy2 t p x F X kz Q kC kZ).2.1 [.inr (.inr (some t)), .inl p, .inl x] S ∧ d ≤ (sp_wsy2 t p x F X kz Q kC kZ).2.2.1 [.inr (.inr (some t)), .inl p, .inl x] S := fun a d h1 h2 => ⟨by show a ≤ nc_i (∃ n m, syA p x n m) (nc_syC kz Q p.toNatClampNeg x.toNatClampNeg kC) + 4; rw [nc_it ⟨n, m, hA⟩, cn, cm]; exact h1, by show d ≤ nc_i (∃ n m, syA p x n m) (nc_syZ kz Q p.toNatClampNeg x.toNatClampNeg kZ) + 24; rw [nc_it ⟨n, m, hA⟩, cn, cm]; exact h2⟩
      have eC : addNC (sumA (Q.G m) m).length (kz 1) 0 + sdC (syK kz Q m) (Q.G n) (nc_syN Q n m) (some m) ≤ nc_syC kz Q n m kC := by unfold nc_syC; omega
      have eZ : addNS (sumA (Q.G m) m).length (kz 1) 0 + sdZ (syK kz Q m) (Q.G n) (nc_syN Q n m) (some m) ≤ nc_syZ kz Q n m kZ := by unfold nc_syZ; omega
      refine ⟨hz.1.1.1, rfl, pa_i r4 ⟨F1, 23, z 6, pl, me, a, d, V, cap, [], n + 1, A, X1 n, Q.G n, Q.T n, H, W, kn, kr, nc_syN Q n m, some m, gq, by rw [hWo, c1]; omega, by rw [hWo, c2]; omega, fun S5 h5 => ?_⟩⟩
      rw [hWo, c1, c2]
      obtain ⟨F5, a5, d5, cap5, g1, g2, g3, g4⟩ := hz.gath hW hWn hWo h5
      have k5 : Keep (fun b => cO (F b).1) S S5 := hk1.trN g4 (fun b hb e => by show cO (F b).1; rw [← hf1 b hb, e]; exact ⟨by decide, by decide⟩)
      have f5 : ∀ b, b ∈ mL S → F5 b = F b := fun b hb => (g3 b (hk1.1 b hb).1).trans (hf1 b hb)
      have hB5 : Bt S5 F5 22 (z 1) d1 B1 (syK kz Q m 1) := hB.keep g4 (fun b e w => by rw [e] at w; exact absurd w (by decide)) g3
      have r45 : mR S5 1204 t = some (z 4) := g2.1.1.2.2.1 4 (by decide) (by decide) (by decide) (by decide)
      have r15 : mR S5 1201 t = some (z 1) := g2.1.1.2.2.1 1 (by decide) (by decide) (by decide) (by decide)
      have nf5 : ∀ {b v}, F5 b = (22, v) → (F5 b).1 ≠ 23 := fun {b v} e w => by rw [e] at w; have w : 22 = 23 := w; exact absurd w (by decide)
      have eA : coA (paF (Q.G n) (nc_syN Q n m) (some m)) p = nc_syA Q n m := by unfold nc_syA; rw [hpn]
      have eC2 : addNC (sumA (Q.G m) m).length (kz 1) 0 + sdC (syK kz Q m) (Q.G n) (nc_syN Q n m) (some m) + addNC (nc_syA Q n m).length (syK kz Q m 1) 0 ≤ nc_syC kz Q n m kC := by unfold nc_syC; omega
      have eZ2 : addNS (sumA (Q.G m) m).length (kz 1) 0 + sdZ (syK kz Q m) (Q.G n) (nc_syN Q n m) (some m) + addNS (nc_syA Q n m).length (syK kz Q m 1) 0 ≤ nc_syZ kz Q n m kZ := by unfold nc_syZ; omega
      refine ⟨g2.1.1.1, g2.1.1.1, rfl, pa_i r45 (pa_i r15 ⟨F5, 23, z 6, pl, me, a5, d5, _, cap5, _, d1, B1, ⟨g1, hB5.1, nf5 hB5.2.1, nf5 hB5.2.2.1⟩, ?_, ?_, fun S6 h6 => ?_⟩)⟩
      · rw [hB5.2.2.2, eA]; omega
      · rw [hB5.2.2.2, eA]; omega
      · rw [hB5.2.2.2, eA]
        rw [eA] at h6
        obtain ⟨d6, h6⟩ := h6
        have hsp := h6.spilt
        obtain ⟨F6, w1, w2, w3, w4⟩ := App.ownC hB5 g2.fo (by decide) h6
        have k4 : nc_sy4 kz Q n m 1 = capN (nc_syA Q n m).length (syK kz Q m 1) 0 := upF_s
        have b6 : Bt S6 F6 22 (z 1) d6 (nc_syP Q n m) (nc_sy4 kz Q n m 1) := by rw [k4]; exact w1
        have w9 := g2.wire (K' := nc_sy4 kz Q n m) ⟨d6, _, b6⟩ (fun k hk => upF_o hk) w4 w2 w3
        have r16 : mR S6 1201 t = some (z 1) := w9.1.1.2.2.1 1 (by decide) (by decide) (by decide) (by decide)
        have k6 : Keep (fun b => cO (F b).1) S S6 := k5.trN w4 (fun b hb e => by show cO (F b).1; rw [← f5 b hb, e]; exact ⟨by decide, by decide⟩)
        have f6 : ∀ b, b ∈ mL S → F6 b = F b := fun b hb => (w2 b (k5.1 b hb).1).trans (f5 b hb)
        refine ⟨w9.1.1.1, pa_i r16 ⟨w1.1.1, fun q0 => ?_, fun q0 => ⟨Or.inr (Or.inl ⟨rfl, n, m, X1, hA, Nat.lt_of_not_le (fun w => q0 (by rw [hsp, if_pos (show (nc_syA Q n m).length ≤ 32768 from (paT_co (nI n)).1 w)])), F6, ⟨z, w9⟩, f6, k6⟩), cst _ _ (by omega) (by omega)⟩⟩⟩
        have hl : (nc_syA Q n m).length ≤ 32768 := Classical.byContradiction (fun w => by rw [hsp, if_neg w] at q0; exact absurd q0 (by decide))
        have ht : paT (Q.G n) (nc_syN Q n m) (some m) ≤ 32768 := (paT_co (nI n)).2 hl
        exact ⟨0, by decide, z, n, m, F6, X1, d6, rfl, hA, ht, w9, b6, f6, k6, rfl, rfl, by unfold nc_y3C; omega, by unfold nc_y3Z; omega⟩
    · cases hm
      obtain ⟨z, n, m, F1, X1, d1, hk0, hA, ht, hz, hB, hf1, hk1, hlo, hst, hcs, hsl⟩ := h
      subst hk0 hlo hst
      refine ⟨300, ?_⟩
      show (isO S1 12 t ∧ (0 = 0 ∧ ((pa (mR S1 1201 t) fun a_1 => (∃ (F_2 : Nat → Nat × Nat) (z_3 : Nat → Nat) (X_4 : Nat → GX) (kz_5 : Nat → Nat) (Q_6 : Ab) (n_7 j_8 d_9 : Nat) (B_10 : List Nat) (nn_11 kC_12 kZ_13 : Nat), (dvP S1 F_2 t z_3 X_4 kz_5 Q_6 n_7 j_8 (z (30 + m)) a_1 d_9 B_10 nn_11 kC_12 kZ_13) ∧ cs + (addNC (nc_dU B_10) (kz_5 45) 0 + kC_12) ≤ nc_i (∃ n m, syA p x n m) (nc_syC kz Q p.toNatClampNeg x.toNatClampNeg kC) + 4 ∧ sl + (addNS (nc_dU B_10) (kz_5 45) 0 + kZ_13) ≤ nc_i (∃ n m, syA p x n m) (nc_syZ kz Q p.toNatClampNeg x.toNatClampNeg kZ) + 24 ∧ (∀ (x_15 : Int32) (S_14 : MM), (dvQ S1 S_14 F_2 t z_3 kz_5 Q_6 n_7 j_8 B_10 x_15) → (0 = 0 ∧ (∃ (F_16 : Nat → Nat × Nat) (z_17 : Nat → Nat) (ft_18 fo_19 : Nat) (mp_20 : Nat → Option Nat) (ms_21 : Nat → Nat), (isO S_14 12 t ∧ SfB S_14 F_16 t z_17 ft_18 fo_19 mp_20 ms_21) ∧ cs + (addNC (nc_dU B_10) (kz_5 45) 0 + kC_12) + 1 ≤ nc_i (∃ n m, syA p x n m) (nc_syC kz Q p.toNatClampNeg x.toNatClampNeg kC) + 4 ∧ sl + (addNS (nc_dU B_10) (kz_5 45) 0 + kZ_13) + 6 ≤ nc_i (∃ n m, syA p x n m) (nc_syZ kz Q p.toNatClampNeg x.toNatClampNeg kZ) + 24 ∧ ((∀ (S_22 : MM), (S_22 = S_14 ∧ ft_18 = 0) → (([] : List MV) = [] ∧ mret (some .int) (sp_wsy2 t p x F X kz Q kC kZ) [.inr (.inr (some t)), .inl p, .inl x] S (some (.inl x_15)) S_22 (cs + (addNC (nc_dU B_10) (kz_5 45) 0 + kC_12) + 1) (sl + (addNS (nc_dU B_10) (kz_5 45) 0 + kZ_13) + 6))) ∧ ((ft_18 = 5) → mthr (sp_wsy2 t p x F X kz Q kC kZ) [.inr (.inr (some t)), .inl p, .inl x] S 2 S_14 (cs + (addNC (nc_dU B_10) (kz_5 45) 0 + kC_12) + 1) (sl + (addNS (nc_dU B_10) (kz_5 45) 0 + kZ_13) + 6)) ∧ ((ft_18 = 6) → mthr (sp_wsy2 t p x F X kz Q kC kZ) [.inr (.inr (some t)), .inl p, .inl x] S 3 S_14 (cs + (addNC (nc_dU B_10) (kz_5 45) 0 + kC_12) + 1) (sl + (addNS (nc_dU B_10) (kz_5 45) 0 + kZ_13) + 6)) ∧ ((ft_18 = 7) → mthr (sp_wsy2 t p x F X kz Q kC kZ) [.inr (.inr (some t)), .inl p, .inl x] S 0 S_14 (cs + (addNC (nc_dU B_10) (kz_5 45) 0 + kC_12) + 1) (sl + (addNS (nc_dU B_10) (kz_5 45) 0 + kZ_13) + 6)) ∧ ((1 ≤ ft_18 ∧ ft_18 ≤ 4) → mthr (sp_wsy2 t p x F X kz Q kC kZ) [.inr (.inr (some t)), .inl p, .inl x] S 1 S_14 (cs + (addNC (nc_dU B_10) (kz_5 45) 0 + kC_12) + 1) (sl + (addNS (nc_dU B_10) (kz_5 45) 0 + kZ_13) + 6)))))))))))
      obtain ⟨hn, hpn, hm4, hxm⟩ := id hA
      have cn : p.toNatClampNeg = n := by rw [hpn]; exact nI_clamp (by omega)
      have cm : x.toNatClampNeg = m := by rw [hxm]; exact nI_clamp (by omega)
      rw [nc_it (P := ∃ n m, syA p x n m) ⟨n, m, hA⟩, nc_it (P := ∃ n m, syA p x n m) ⟨n, m, hA⟩, cn, cm]
      have hKb := hp.2 n m hn hpn hm4 hxm
      unfold nc_y3C at hcs
      unfold nc_y3Z at hsl
      have eC2 : nc_syC kz Q n m kC = addNC (sumA (Q.G m) m).length (kz 1) 0 + sdC (syK kz Q m) (Q.G n) (nc_syN Q n m) (some m) + (addNC (nc_syA Q n m).length (syK kz Q m 1) 0 + (addNC (nc_dU (nc_syP Q n m)) (nc_sy4 kz Q n m 45) 0 + kC)) := by unfold nc_syC; rw [nc_t ht]; rfl
      have eZ2 : nc_syZ kz Q n m kZ = addNS (sumA (Q.G m) m).length (kz 1) 0 + sdZ (syK kz Q m) (Q.G n) (nc_syN Q n m) (some m) + (addNS (nc_syA Q n m).length (syK kz Q m 1) 0 + (addNS (nc_dU (nc_syP Q n m)) (nc_sy4 kz Q n m 45) 0 + kZ)) := by unfold nc_syZ; rw [nc_t ht]; rfl
      have cst : ∀ a d : Nat, a ≤ nc_syC kz Q n m kC + 4 → d ≤ nc_syZ kz Q n m kZ + 24 → a ≤ (sp_wsy2 t p x F X kz Q kC kZ).2.1 [.inr (.inr (some t)), .inl p, .inl x] S ∧ d ≤ (sp_wsy2 t p x F X kz Q kC kZ).2.2.1 [.inr (.inr (some t)), .inl p, .inl x] S := fun a d h1 h2 => ⟨by show a ≤ nc_i (∃ n m, syA p x n m) (nc_syC kz Q p.toNatClampNeg x.toNatClampNeg kC) + 4; rw [nc_it ⟨n, m, hA⟩, cn, cm]; exact h1, by show d ≤ nc_i (∃ n m, syA p x n m) (nc_syZ kz Q p.toNatClampNeg x.toNatClampNeg kZ) + 24; rw [nc_it ⟨n, m, hA⟩, cn, cm]; exact h2⟩
      have r1 : mR S1 1201 t = some (z 1) := hz.1.1.2.2.1 1 (by decide) (by decide) (by decide) (by decide)
      refine ⟨hz.1.1.1, rfl, pa_i r1 ⟨F1, z, X1, nc_sy4 kz Q n m, nc_syQ Q n m, m, 22, d1, nc_syP Q n m, nc_sy4 kz Q n m 1, kC, kZ, ⟨hz, hm4, rfl, hB, Or.inr (Or.inl rfl), by rw [nc_syQ_G.1, nc_syQ_G.2]; exact hKb⟩, by rw [eC2]; omega, by rw [eZ2]; omega, fun v S4 h4 => ?_⟩⟩
      obtain ⟨c, F4, X4, Q4, rfl, hc8, hd, w1, w2, w3⟩ := h4
      have wq : wtQ S S4 F t X4 (nc_tK (nc_sy4 kz Q n m) (nc_syP Q n m)) (id Q4) := ⟨F4, ⟨z, w1⟩, fun b hb => (w2 b (hk1.1 b hb).1).trans (hf1 b hb), hk1.trN w3 (fun b hb w => by show cO (F b).1; rw [← hf1 b hb]; exact w.1)⟩
      refine ⟨rfl, F4, z, Q4.ft, Q4.fo, Q4.mp, Q4.ms, ⟨w1.1.1.1, w1.1.2.1⟩, by rw [eC2]; omega, by rw [eZ2]; omega, fun S6 h6 => ?_, fun e => ⟨Or.inr (Or.inr (Or.inl ⟨rfl, n, m, c, hA, ht, Q4, X4, hd, e, wq⟩)), cst _ _ (by rw [eC2]; omega) (by rw [eZ2]; omega)⟩, fun e => ⟨Or.inr (Or.inr (Or.inr (Or.inl ⟨rfl, n, m, c, hA, ht, Q4, X4, hd, e, wq⟩))), cst _ _ (by rw [eC2]; omega) (by rw [eZ2]; omega)⟩, fun e => ⟨Or.inr (Or.inr (Or.inr (Or.inr (Or.inl ⟨rfl, n, m, c, hA, ht, Q4, X4, hd, e, wq⟩)))), cst _ _ (by rw [eC2]; omega) (by rw [eZ2]; omega)⟩, fun e => ⟨Or.inr (Or.inr (Or.inr (Or.inr (Or.inr ⟨rfl, n, m, c, hA, ht, Q4, X4, hd, e, wq⟩)))), cst _ _ (by rw [eC2]; omega) (by rw [eZ2]; omega)⟩⟩
      obtain ⟨rfl, e⟩ := h6
      exact ⟨rfl, trivial, ⟨_, rfl, n, m, c, hA, rfl, hc8, ht, Q4, X4, hd, e, wq⟩, cst _ _ (by rw [eC2]; omega) (by rw [eZ2]; omega)⟩
theorem u_wsy2 (l : Launch) (hlt : l.stackTraces = false) : UsX l yX11_sync (Cond.code yX11_sync cX11_sync 6 (some .int)) (some .int) 11 271 12 T_wsy2 := by
  intro Rc Rs av S cs sl K Kx h
  unfold T_wsy2 at h
  split at h
  · rename_i t_o p x
    obtain ⟨t, rfl, h_1⟩ := pa_of h
    obtain ⟨F, X, kz, Q, kC, kZ, hp, hc, hs, hk, hx0, hx1, hx2, hx3, hx4, hx5⟩ := h_1
    refine ⟨(sp_wsy2 t p x F X kz Q kC kZ), c_wsy2 l hlt t p x F X kz Q kC kZ, fun _ _ h9 => ⟨_, _, h9.1, h9.2.1.choose_spec.1.1.1⟩, ⟨rfl, hp⟩, hc, hs, fun v9 S' h8 => by
      obtain ⟨v8, h7, h8⟩ := h8
      cases h7
      exact hk _ _ h8, fun _ _ q => by
      rcases q with ⟨rfl, q⟩ | ⟨rfl, q⟩ | ⟨rfl, q⟩ | ⟨rfl, q⟩ | ⟨rfl, q⟩ | ⟨rfl, q⟩
      · obtain ⟨q, rfl⟩ := q
        exact hx0 q
      · exact hx1 _ q
      · exact hx2 _ q
      · exact hx3 _ q
      · exact hx4 _ q
      · exact hx5 _ q⟩
  · exact h.elim
