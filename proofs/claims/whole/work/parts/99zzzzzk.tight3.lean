/-! ===== The reference's calls again: what a refused call costs ===== -/
def T_rde02 : TR := fun Rc Rs av S cs sl K Kx => match av with
  | [.inr (.inr t_o), .inl p, .inl x, .inl y] => pa t_o fun t => (∃ (F : Nat → Nat × Nat) (z : Nat → Nat) (Y : Nat → Nat → Nat) (R : Rb) (kz : Nat → Nat), (MD S F t z Y R kz ∧ AbC R) ∧ cs + (3 + nc_i (∃ n i m, n < 4 ∧ p = nI n ∧ dlOk R.Q n x y i m ∧ roP (R.Q.G n) n m) (dC1 R p.toNatClampNeg y.toNatClampNeg)) ≤ Rc ∧ sl + (18 + nc_i (∃ n i m, n < 4 ∧ p = nI n ∧ dlOk R.Q n x y i m ∧ roP (R.Q.G n) n m) (dC2 R p.toNatClampNeg y.toNatClampNeg)) ≤ Rs ∧ ((∀ (v : Int32) (S' : MM), (rdQ2 S S' F t R kz p x y v) → K (some (.inl v)) S' (cs + (3 + nc_i (∃ n i m, n < 4 ∧ p = nI n ∧ dlOk R.Q n x y i m ∧ roP (R.Q.G n) n m) (dC1 R p.toNatClampNeg y.toNatClampNeg))) (sl + (18 + nc_i (∃ n i m, n < 4 ∧ p = nI n ∧ dlOk R.Q n x y i m ∧ roP (R.Q.G n) n m) (dC2 R p.toNatClampNeg y.toNatClampNeg)))) ∧ ((np 4 p ∨ ∃ n, n < 4 ∧ p = nI n ∧ ¬ ∃ i m, dlOk R.Q n x y i m) → Kx 1 S (cs + (3 + nc_i (∃ n i m, n < 4 ∧ p = nI n ∧ dlOk R.Q n x y i m ∧ roP (R.Q.G n) n m) (dC1 R p.toNatClampNeg y.toNatClampNeg))) (sl + (18 + nc_i (∃ n i m, n < 4 ∧ p = nI n ∧ dlOk R.Q n x y i m ∧ roP (R.Q.G n) n m) (dC2 R p.toNatClampNeg y.toNatClampNeg)))) ∧ ((∃ n i m, n < 4 ∧ p = nI n ∧ dlOk R.Q n x y i m ∧ ¬ roP (R.Q.G n) n m) → Kx 0 S (cs + (3 + nc_i (∃ n i m, n < 4 ∧ p = nI n ∧ dlOk R.Q n x y i m ∧ roP (R.Q.G n) n m) (dC1 R p.toNatClampNeg y.toNatClampNeg))) (sl + (18 + nc_i (∃ n i m, n < 4 ∧ p = nI n ∧ dlOk R.Q n x y i m ∧ roP (R.Q.G n) n m) (dC2 R p.toNatClampNeg y.toNatClampNeg))))))
  | _ => False
noncomputable def sp_rde02 (t : Nat) (p : Int32) (x : Int32) (y : Int32) (F : Nat → Nat × Nat) (z : Nat → Nat) (Y : Nat → Nat → Nat) (R : Rb) (kz : Nat → Nat) : Sp := (fun av S => av = [.inr (.inr (some t)), .inl p, .inl x, .inl y] ∧ (MD S F t z Y R kz ∧ AbC R), fun _ S => 3 + nc_i (∃ n i m, n < 4 ∧ p = nI n ∧ dlOk R.Q n x y i m ∧ roP (R.Q.G n) n m) (dC1 R p.toNatClampNeg y.toNatClampNeg), fun _ S => 18 + nc_i (∃ n i m, n < 4 ∧ p = nI n ∧ dlOk R.Q n x y i m ∧ roP (R.Q.G n) n m) (dC2 R p.toNatClampNeg y.toNatClampNeg), fun _ S rv S' => ∃ v, rv = (some (.inl v)) ∧ (rdQ2 S S' F t R kz p x y v), fun _ S E S' => (E = 1 ∧ (np 4 p ∨ ∃ n, n < 4 ∧ p = nI n ∧ ¬ ∃ i m, dlOk R.Q n x y i m) ∧ S' = S) ∨ (E = 0 ∧ (∃ n i m, n < 4 ∧ p = nI n ∧ dlOk R.Q n x y i m ∧ ¬ roP (R.Q.G n) n m) ∧ S' = S))
set_option maxRecDepth 100000 in
set_option maxHeartbeats 2000000 in
theorem c_rde02 (l : Launch) (hlt : l.stackTraces = false) : ∀ (t : Nat) (p : Int32) (x : Int32) (y : Int32) (F : Nat → Nat × Nat) (z : Nat → Nat) (Y : Nat → Nat → Nat) (R : Rb) (kz : Nat → Nat), CtX l yX14_delete0 (Cond.code yX14_delete0 cX14_delete0 8 (some .int)) (some .int) 8 130 (sp_rde02 t p x y F z Y R kz) := by
  intro t p x y F z Y R kz
  refine CtX.of hlt (fX14, nX14, aX14, iX14, lX14, [(203, 0, 2, 3, T_rgr), (207, 0, 1, 1, T_rln), (144, 2, 3, 1, T_rin), (148, 2, 1, 0, T_rck), (214, 0, 4, 0, T_rnr), (218, 0, 2, 1, T_rco), (221, 0, 2, 1, T_row9), (232, 0, 3, 0, T_rer), (228, 0, 5, 0, T_rnt)], qX14, gX14, []) false tX14_delete0 (fun _ S => look [(45, ([0,1,2,3,4], I_rdl1 t p x y Y R S)), (64, ([0,1,2,3,4,6,7], I_rdl2 t p x y F z Y R kz S))]) (by decide) (by decide) kX14_delete0 ⟨_, _, rfl⟩ fX14_ok nX14_ok aX14_ok iX14_ok lX14_ok (fun p e R s m args below meth c Q D cy z r A C hR1 hR2 => List.forall_mem_cons.mpr ⟨cOK_use (fun _ _ _ _ _ _ _ _ h => let ⟨sp, h1, h2, h3⟩ := u_rgr l hlt _ _ _ _ _ _ _ _ h; ⟨sp, cOKx_V C h1 vX14_delete0_203 ⟨by decide, by decide, by decide +kernel⟩ ⟨by rw [hR1]; decide, by rw [hR2]; decide⟩ (k := 15) (T := TX14) (N := 52) rfl (by decide) h2, h3⟩), List.forall_mem_cons.mpr ⟨cOK_use (fun _ _ _ _ _ _ _ _ h => let ⟨sp, h1, h2, h3⟩ := u_rln l _ _ _ _ _ _ _ _ h; ⟨sp, cOK_V C h1 vX14_delete0_207 ⟨by decide, by decide, by decide +kernel⟩ ⟨by rw [hR1]; decide, by rw [hR2]; decide⟩ (k := 13) (T := TX12) (N := 27) rfl (by decide) h2, h3⟩), List.forall_mem_cons.mpr ⟨cOK_use (fun _ _ _ _ _ _ _ _ h => let ⟨sp, h1, _, h3⟩ := u_rin l _ _ _ _ _ _ _ _ h; ⟨sp, cOK_S C h1 vX14_delete0_144 ⟨by decide, by decide, by decide +kernel⟩ ⟨by rw [hR1]; decide, by rw [hR2]; decide⟩, h3⟩), List.forall_mem_cons.mpr ⟨cOK_use (fun _ _ _ _ _ _ _ _ h => let ⟨sp, h1, _, h3⟩ := u_rck l hlt _ _ _ _ _ _ _ _ h; ⟨sp, cOKx_S C h1 vX14_delete0_148 ⟨by decide, by decide, by decide +kernel⟩ ⟨by rw [hR1]; decide, by rw [hR2]; decide⟩, h3⟩), List.forall_mem_cons.mpr ⟨cOK_use (fun _ _ _ _ _ _ _ _ h => let ⟨sp, h1, h2, h3⟩ := u_rnr l hlt _ _ _ _ _ _ _ _ h; ⟨sp, cOKx_V C h1 vX14_delete0_214 ⟨by decide, by decide, by decide +kernel⟩ ⟨by rw [hR1]; decide, by rw [hR2]; decide⟩ (k := 15) (T := TX14) (N := 52) rfl (by decide) h2, h3⟩), List.forall_mem_cons.mpr ⟨cOK_use (fun _ _ _ _ _ _ _ _ h => let ⟨sp, h1, h2, h3⟩ := u_rco l _ _ _ _ _ _ _ _ h; ⟨sp, cOK_V C h1 vX14_delete0_218 ⟨by decide, by decide, by decide +kernel⟩ ⟨by rw [hR1]; decide, by rw [hR2]; decide⟩ (k := 13) (T := TX12) (N := 27) rfl (by decide) h2, h3⟩), List.forall_mem_cons.mpr ⟨cOK_use (fun _ _ _ _ _ _ _ _ h => let ⟨sp, h1, h2, h3⟩ := u_row9 l _ _ _ _ _ _ _ _ h; ⟨sp, cOK_V C h1 vX14_delete0_221 ⟨by decide, by decide, by decide +kernel⟩ ⟨by rw [hR1]; decide, by rw [hR2]; decide⟩ (k := 15) (T := TX14) (N := 52) rfl (by decide) h2, h3⟩), List.forall_mem_cons.mpr ⟨cOK_use (fun _ _ _ _ _ _ _ _ h => let ⟨sp, h1, h2, h3⟩ := u_rer l _ _ _ _ _ _ _ _ h; ⟨sp, cOK_V C h1 vX14_delete0_232 ⟨by decide, by decide, by decide +kernel⟩ ⟨by rw [hR1]; decide, by rw [hR2]; decide⟩ (k := 13) (T := TX12) (N := 27) rfl (by decide) h2, h3⟩), List.forall_mem_cons.mpr ⟨cOK_use (fun _ _ _ _ _ _ _ _ h => let ⟨sp, h1, h2, h3⟩ := u_rnt l _ _ _ _ _ _ _ _ h; ⟨sp, cOK_V C h1 vX14_delete0_228 ⟨by decide, by decide, by decide +kernel⟩ ⟨by rw [hR1]; decide, by rw [hR2]; decide⟩ (k := 15) (T := TX14) (N := 52) rfl (by decide) h2, h3⟩), fun _ h => absurd h List.not_mem_nil⟩⟩⟩⟩⟩⟩⟩⟩⟩) qX14_ok gX14_ok (fun _ h => absurd h List.not_mem_nil) ?_ ?_
  · rintro _ S ⟨rfl, hp⟩
    refine ⟨Nat.le_of_ble_eq_true rfl, 300, ?_⟩
    show (0 = 0 ∧ (∃ (F_1 : Nat → Nat × Nat) (z_2 : Nat → Nat) (Y_3 : Nat → Nat → Nat) (R_4 : Rb) (kz_5 : Nat → Nat), (MD S F_1 t z_2 Y_3 R_4 kz_5) ∧ 0 + 1 ≤ 3 + nc_i (∃ n i m, n < 4 ∧ p = nI n ∧ dlOk R.Q n x y i m ∧ roP (R.Q.G n) n m) (dC1 R p.toNatClampNeg y.toNatClampNeg) ∧ 0 + 6 ≤ 18 + nc_i (∃ n i m, n < 4 ∧ p = nI n ∧ dlOk R.Q n x y i m ∧ roP (R.Q.G n) n m) (dC2 R p.toNatClampNeg y.toNatClampNeg) ∧ ((∀ (x_7 : Option Nat) (S_6 : MM), (S_6 = S ∧ ∃ n, n < 4 ∧ p = nI n ∧ x_7 = some (Y_3 n 0)) → (0 = 0 ∧ ((pa x_7 fun a_8 => (∃ (F_9 : Nat → Nat × Nat) (i_10 : Nat) (y_11 : Nat → Nat) (G_12 : Gr) (T_13 : Tr), (a_8 = y_11 0 ∧ RG S_6 F_9 i_10 y_11 G_12 T_13) ∧ 0 + 1 ≤ 3 + nc_i (∃ n i m, n < 4 ∧ p = nI n ∧ dlOk R.Q n x y i m ∧ roP (R.Q.G n) n m) (dC1 R p.toNatClampNeg y.toNatClampNeg) ∧ 0 + 6 ≤ 18 + nc_i (∃ n i m, n < 4 ∧ p = nI n ∧ dlOk R.Q n x y i m ∧ roP (R.Q.G n) n m) (dC2 R p.toNatClampNeg y.toNatClampNeg) ∧ (((y < (1 : Int32) → (2 = 2 ∧ (((0 : Int32) = 0 ∨ (0 : Int32) = 1) ∧ 0 + 1 + 1 ≤ 3 + nc_i (∃ n i m, n < 4 ∧ p = nI n ∧ dlOk R.Q n x y i m ∧ roP (R.Q.G n) n m) (dC1 R p.toNatClampNeg y.toNatClampNeg) ∧ 0 + 6 + 6 ≤ 18 + nc_i (∃ n i m, n < 4 ∧ p = nI n ∧ dlOk R.Q n x y i m ∧ roP (R.Q.G n) n m) (dC2 R p.toNatClampNeg y.toNatClampNeg) ∧ ((∀ (S_15 : MM), (S_15 = S_6 ∧ (0 : Int32) = 1) → (∃ k1, I_rdl1 t p x y Y R S k1 [(0, .inr (.inr (some t))), (1, .inl p), (2, .inl x), (3, .inl y), (4, .inr (.inr x_7))] [] S_15 (0 + 1 + 1) (0 + 6 + 6))) ∧ (((0 : Int32) = 0) → mthr (sp_rde02 t p x y F z Y R kz) [.inr (.inr (some t)), .inl p, .inl x, .inl y] S 1 S_6 (0 + 1 + 1) (0 + 6 + 6)))))) ∧ (¬ y < (1 : Int32) → (((nI (T_13.od.filter (vis G_12)).length) < y → (2 = 2 ∧ (((0 : Int32) = 0 ∨ (0 : Int32) = 1) ∧ 0 + 1 + 1 ≤ 3 + nc_i (∃ n i m, n < 4 ∧ p = nI n ∧ dlOk R.Q n x y i m ∧ roP (R.Q.G n) n m) (dC1 R p.toNatClampNeg y.toNatClampNeg) ∧ 0 + 6 + 6 ≤ 18 + nc_i (∃ n i m, n < 4 ∧ p = nI n ∧ dlOk R.Q n x y i m ∧ roP (R.Q.G n) n m) (dC2 R p.toNatClampNeg y.toNatClampNeg) ∧ ((∀ (S_17 : MM), (S_17 = S_6 ∧ (0 : Int32) = 1) → (∃ k1, I_rdl1 t p x y Y R S k1 [(0, .inr (.inr (some t))), (1, .inl p), (2, .inl x), (3, .inl y), (4, .inr (.inr x_7))] [] S_17 (0 + 1 + 1) (0 + 6 + 6))) ∧ (((0 : Int32) = 0) → mthr (sp_rde02 t p x y F z Y R kz) [.inr (.inr (some t)), .inl p, .inl x, .inl y] S 1 S_6 (0 + 1 + 1) (0 + 6 + 6)))))) ∧ (¬ (nI (T_13.od.filter (vis G_12)).length) < y → (2 = 2 ∧ (True ∧ 0 + 1 ≤ 3 + nc_i (∃ n i m, n < 4 ∧ p = nI n ∧ dlOk R.Q n x y i m ∧ roP (R.Q.G n) n m) (dC1 R p.toNatClampNeg y.toNatClampNeg) ∧ 0 + 6 ≤ 18 + nc_i (∃ n i m, n < 4 ∧ p = nI n ∧ dlOk R.Q n x y i m ∧ roP (R.Q.G n) n m) (dC2 R p.toNatClampNeg y.toNatClampNeg) ∧ ((((tf ((0 : Int32) ≤ x ∧ x ≤ ((nI (T_13.od.filter (vis G_12)).length) - y))) = 0 → (2 = 2 ∧ (((0 : Int32) = 0 ∨ (0 : Int32) = 1) ∧ 0 + 1 + 1 ≤ 3 + nc_i (∃ n i m, n < 4 ∧ p = nI n ∧ dlOk R.Q n x y i m ∧ roP (R.Q.G n) n m) (dC1 R p.toNatClampNeg y.toNatClampNeg) ∧ 0 + 6 + 6 ≤ 18 + nc_i (∃ n i m, n < 4 ∧ p = nI n ∧ dlOk R.Q n x y i m ∧ roP (R.Q.G n) n m) (dC2 R p.toNatClampNeg y.toNatClampNeg) ∧ ((∀ (S_20 : MM), (S_20 = S_6 ∧ (0 : Int32) = 1) → (∃ k1, I_rdl1 t p x y Y R S k1 [(0, .inr (.inr (some t))), (1, .inl p), (2, .inl x), (3, .inl y), (4, .inr (.inr x_7))] [] S_20 (0 + 1 + 1) (0 + 6 + 6))) ∧ (((0 : Int32) = 0) → mthr (sp_rde02 t p x y F z Y R kz) [.inr (.inr (some t)), .inl p, .inl x, .inl y] S 1 S_6 (0 + 1 + 1) (0 + 6 + 6)))))) ∧ (¬ (tf ((0 : Int32) ≤ x ∧ x ≤ ((nI (T_13.od.filter (vis G_12)).length) - y))) = 0 → (2 = 2 ∧ (((1 : Int32) = 0 ∨ (1 : Int32) = 1) ∧ 0 + 1 + 1 ≤ 3 + nc_i (∃ n i m, n < 4 ∧ p = nI n ∧ dlOk R.Q n x y i m ∧ roP (R.Q.G n) n m) (dC1 R p.toNatClampNeg y.toNatClampNeg) ∧ 0 + 6 + 6 ≤ 18 + nc_i (∃ n i m, n < 4 ∧ p = nI n ∧ dlOk R.Q n x y i m ∧ roP (R.Q.G n) n m) (dC2 R p.toNatClampNeg y.toNatClampNeg) ∧ ((∀ (S_22 : MM), (S_22 = S_6 ∧ (1 : Int32) = 1) → (∃ k1, I_rdl1 t p x y Y R S k1 [(0, .inr (.inr (some t))), (1, .inl p), (2, .inl x), (3, .inl y), (4, .inr (.inr x_7))] [] S_22 (0 + 1 + 1) (0 + 6 + 6))) ∧ (((1 : Int32) = 0) → mthr (sp_rde02 t p x y F z Y R kz) [.inr (.inr (some t)), .inl p, .inl x, .inl y] S 1 S_6 (0 + 1 + 1) (0 + 6 + 6)))))))))))))))))))) ∧ ((np 4 p) → mthr (sp_rde02 t p x y F z Y R kz) [.inr (.inr (some t)), .inl p, .inl x, .inl y] S 1 S (0 + 1) (0 + 6)))))
    obtain ⟨hM, hA⟩ := hp
    refine ⟨rfl, F, z, Y, R, kz, hM, by omega, by omega, fun v S3 h => ?_, fun h => ⟨Or.inl ⟨rfl, Or.inl h, rfl⟩, by show _ ≤ 3 + nc_i (∃ n i m, n < 4 ∧ p = nI n ∧ dlOk R.Q n x y i m ∧ roP (R.Q.G n) n m) (dC1 R p.toNatClampNeg y.toNatClampNeg); omega, by show _ ≤ 18 + nc_i (∃ n i m, n < 4 ∧ p = nI n ∧ dlOk R.Q n x y i m ∧ roP (R.Q.G n) n m) (dC2 R p.toNatClampNeg y.toNatClampNeg); omega⟩⟩
    obtain ⟨rfl, n, hn, hpn, rfl⟩ := h
    have g := (hM 2 n hn).2.1
    have hnm := g.nm
    have hol := g.odl
    have hfl : ((R.Q.T n).od.filter (vis (R.Q.G n))).length ≤ (R.Q.T n).od.length := List.length_filter_le _ _
    have evn : visN (R.Q.G n) (R.Q.T n) = ((R.Q.T n).od.filter (vis (R.Q.G n))).length := rfl
    refine ⟨rfl, pa_i rfl ⟨F, 101 + n, Y n, R.Q.G n, R.Q.T n, ⟨rfl, g⟩, by omega, by omega, fun q => ⟨rfl, Or.inl rfl, by omega, by omega, fun S9 h => absurd h.2 (by decide), fun _ => ⟨Or.inl ⟨rfl, Or.inr ⟨n, hn, hpn, ?_⟩, rfl⟩, by show _ ≤ 3 + nc_i (∃ n i m, n < 4 ∧ p = nI n ∧ dlOk R.Q n x y i m ∧ roP (R.Q.G n) n m) (dC1 R p.toNatClampNeg y.toNatClampNeg); omega, by show _ ≤ 18 + nc_i (∃ n i m, n < 4 ∧ p = nI n ∧ dlOk R.Q n x y i m ∧ roP (R.Q.G n) n m) (dC2 R p.toNatClampNeg y.toNatClampNeg); omega⟩⟩, fun q1 => ⟨fun q => ⟨rfl, Or.inl rfl, by omega, by omega, fun S9 h => absurd h.2 (by decide), fun _ => ⟨Or.inl ⟨rfl, Or.inr ⟨n, hn, hpn, ?_⟩, rfl⟩, by show _ ≤ 3 + nc_i (∃ n i m, n < 4 ∧ p = nI n ∧ dlOk R.Q n x y i m ∧ roP (R.Q.G n) n m) (dC1 R p.toNatClampNeg y.toNatClampNeg); omega, by show _ ≤ 18 + nc_i (∃ n i m, n < 4 ∧ p = nI n ∧ dlOk R.Q n x y i m ∧ roP (R.Q.G n) n m) (dC2 R p.toNatClampNeg y.toNatClampNeg); omega⟩⟩, fun q2 => ?_⟩⟩⟩
    · rintro ⟨i, m, o1, o2, o3, o4⟩
      rw [o4] at q
      have := (nI_ltI (a := m) (b := 1) (by omega) (by decide)).1 q
      omega
    · rintro ⟨i, m, o1, o2, o3, o4⟩
      rw [o4] at q
      have := (nI_ltI (by omega) (by omega)).1 q
      omega
    · have y0 : ¬ y < 0 := fun w => q1 (Int32.lt_trans w (by decide))
      obtain ⟨m, hm, rfl⟩ := nI_of y0
      have m1 : 1 ≤ m := Nat.le_of_not_lt (fun w => q1 ((nI_ltI (a := m) (b := 1) hm (by decide)).2 w))
      have m2 : m ≤ ((R.Q.T n).od.filter (vis (R.Q.G n))).length := Nat.le_of_not_lt (fun w => q2 ((nI_ltI (by omega) hm).2 w))
      have es : nI ((R.Q.T n).od.filter (vis (R.Q.G n))).length - nI m = nI (((R.Q.T n).od.filter (vis (R.Q.G n))).length - m) := pk_sub m2
      rw [es]
      refine ⟨rfl, trivial, by omega, by omega, fun q => ⟨rfl, Or.inl rfl, by omega, by omega, fun S9 h => absurd h.2 (by decide), fun _ => ⟨Or.inl ⟨rfl, Or.inr ⟨n, hn, hpn, ?_⟩, rfl⟩, Nat.le_trans (show _ ≤ 3 by omega) (Nat.le_add_right _ _), Nat.le_trans (show _ ≤ 18 by omega) (Nat.le_add_right _ _)⟩⟩, fun q => ⟨rfl, Or.inr rfl, by omega, by omega, fun S9 h => ?_, fun h => absurd h (by decide)⟩⟩
      · rintro ⟨i, m', o1, o2, o3, o4⟩
        have e2 := (nI_eq hm (by omega)).1 o4
        exact in_0k (by omega) q i (by omega) o3
      · obtain ⟨rfl, -⟩ := h
        obtain ⟨i, hi, rfl⟩ := in_1k (by omega) ((tf_b _).resolve_left q)
        exact ⟨100000, n, i, m, rfl, hn, hpn, ⟨m1, by omega, rfl, rfl⟩, by rw [hpn], rfl, rfl, rfl, rfl⟩
  · intro av S hpre pc I hI k lo st S1 cs sl h
    obtain ⟨rfl, hp⟩ := hpre
    have hm := look_in hI
    simp only [List.mem_cons, List.not_mem_nil, or_false] at hm
    rcases hm with hm | hm
    · cases hm
      obtain ⟨n, i, m, rfl, hn, hpn, hd, rfl, rfl, rfl, rfl, rfl⟩ := h
      refine ⟨300, ?_⟩
      show (0 = 0 ∧ (∃ (a_1 : Nat), nI n = nI a_1 ∧ (∃ (n_2 : Nat), nI m = nI n_2 ∧ (∃ (F_3 : Nat → Nat × Nat) (i_4 : Nat) (y_5 : Nat → Nat) (G_6 : Gr) (T_7 : Tr), (isO S 15 t ∧ (Y n 0) = y_5 0 ∧ RG S F_3 i_4 y_5 G_6 T_7 ∧ a_1 < 256 ∧ n_2 ≤ 100000) ∧ 2 + 1 ≤ 3 + nc_i (∃ n i m, n < 4 ∧ p = nI n ∧ dlOk R.Q n x y i m ∧ roP (R.Q.G n) n m) (dC1 R p.toNatClampNeg y.toNatClampNeg) ∧ 12 + 6 ≤ 18 + nc_i (∃ n i m, n < 4 ∧ p = nI n ∧ dlOk R.Q n x y i m ∧ roP (R.Q.G n) n m) (dC2 R p.toNatClampNeg y.toNatClampNeg) ∧ ((∀ (S_8 : MM), (S_8 = S ∧ (n_2 = 0 ∨ G_6.n + n_2 ≤ 8192 ∧ (hasAg G_6 a_1 ∨ G_6.m < 16))) → (0 = 0 ∧ (∃ (a_9 : Nat), nI n = nI a_9 ∧ (∃ (F_10 : Nat → Nat × Nat) (i_11 : Nat) (y_12 : Nat → Nat) (G_13 : Gr) (T_14 : Tr), ((Y n 0) = y_12 0 ∧ RG S_8 F_10 i_11 y_12 G_13 T_14 ∧ a_9 < 256) ∧ 2 + 1 ≤ 3 + nc_i (∃ n i m, n < 4 ∧ p = nI n ∧ dlOk R.Q n x y i m ∧ roP (R.Q.G n) n m) (dC1 R p.toNatClampNeg y.toNatClampNeg) ∧ 12 + 6 ≤ 18 + nc_i (∃ n i m, n < 4 ∧ p = nI n ∧ dlOk R.Q n x y i m ∧ roP (R.Q.G n) n m) (dC2 R p.toNatClampNeg y.toNatClampNeg) ∧ ((∃ k1, k1 < 100000 ∧ I_rdl2 t p x y F z Y R kz S k1 [(0, .inr (.inr (some t))), (1, .inl (nI n)), (2, .inl (nI i)), (3, .inl (nI m)), (4, .inr (.inr (some (Y n 0)))), (6, .inl (nI (agE G_13 a_9).length)), (7, .inl (0 : Int32))] [] S_8 (2 + 1) (12 + 6))))))) ∧ ((n_2 ≠ 0 ∧ (8192 < G_6.n + n_2 ∨ ¬ hasAg G_6 a_1 ∧ G_6.m = 16)) → mthr (sp_rde02 t p x y F z Y R kz) [.inr (.inr (some t)), .inl p, .inl x, .inl y] S 0 S (2 + 1) (12 + 6)))))))
      obtain ⟨hM, hA⟩ := hp
      obtain ⟨o1, o2, o3, o4⟩ := id hd
      have g := (hM 2 n hn).2.1
      have hnm := g.nm
      have hol := g.odl
      have hfl : visN (R.Q.G n) (R.Q.T n) ≤ (R.Q.T n).od.length := List.length_filter_le _ _
      refine ⟨rfl, n, rfl, m, rfl, F, 101 + n, Y n, R.Q.G n, R.Q.T n, ⟨(hM 0).1, rfl, g, by omega, by omega⟩, by omega, by omega, fun S8 h => ?_, fun h => ⟨Or.inr ⟨rfl, ⟨n, i, m, hn, hpn, hd, fun r => ?_⟩, rfl⟩, by show _ ≤ 3 + nc_i (∃ n i m, n < 4 ∧ p = nI n ∧ dlOk R.Q n x y i m ∧ roP (R.Q.G n) n m) (dC1 R p.toNatClampNeg y.toNatClampNeg); omega, by show _ ≤ 18 + nc_i (∃ n i m, n < 4 ∧ p = nI n ∧ dlOk R.Q n x y i m ∧ roP (R.Q.G n) n m) (dC2 R p.toNatClampNeg y.toNatClampNeg); omega⟩⟩
      · obtain ⟨rfl, hro⟩ := h
        have hr := hro.resolve_left (by omega)
        refine ⟨rfl, n, rfl, F, 101 + n, Y n, R.Q.G n, R.Q.T n, ⟨rfl, g, by omega⟩, by omega, by omega, m, by omega, n, i, m, 0, F, Y, R.Q.G n, R.Q.T n, Nat.zero_add _, hn, hpn, hd, hro, ⟨?_, fun _ _ => rfl, Keep.rf, rfl, rfl, ⟨rfl, rfl⟩, (hA n hn).1, owN_ok hr.2, rfl, rfl⟩, rfl, rfl, rfl, rfl, rfl⟩
        rw [sG_id]; exact hM
      · rcases r with r | r
        · omega
        · rcases h.2 with q | q
          · omega
          · rcases r.2 with w | w
            · exact q.1 w
            · omega
    · cases hm
      obtain ⟨n, i, m, j, F1, Y1, G1, T1, hj, hn, hpn, hd, hro, hM, hv, rfl, rfl, rfl, rfl⟩ := h
      refine ⟨300, ?_⟩
      show (((nI m) ≤ (nI j) → (0 = 0 ∧ (∃ (f_1 : Nat), nI (agE (R.Q.G n) n).length = nI f_1 ∧ (∃ (n_2 : Nat), nI m = nI n_2 ∧ (∃ (F_3 : Nat → Nat × Nat) (z_4 : Nat → Nat) (Y_5 : Nat → Nat → Nat) (R_6 : Rb) (kz_7 : Nat → Nat) (p_8 : Nat) (bz_9 : Bool), (MD S1 F_3 t z_4 Y_5 R_6 kz_7 ∧ p_8 < 4 ∧ (Y n 0) = Y_5 p_8 0 ∧ (0 : Int32) = bI bz_9 ∧ (R_6.C p_8).length < 8192 ∧ n_2 ≤ 8192) ∧ (3 + dC1 R n j) ≤ 3 + nc_i (∃ n i m, n < 4 ∧ p = nI n ∧ dlOk R.Q n x y i m ∧ roP (R.Q.G n) n m) (dC1 R p.toNatClampNeg y.toNatClampNeg) ∧ (18 + dC2 R n j) ≤ 18 + nc_i (∃ n i m, n < 4 ∧ p = nI n ∧ dlOk R.Q n x y i m ∧ roP (R.Q.G n) n m) (dC2 R p.toNatClampNeg y.toNatClampNeg) ∧ (∀ (S_10 : MM), (ntQ S1 S_10 F_3 t z_4 Y_5 R_6 kz_7 p_8 bz_9 f_1 n_2) → (0 = 0 ∧ (∃ (F_11 : Nat → Nat × Nat) (i_12 : Nat) (y_13 : Nat → Nat) (G_14 : Gr) (T_15 : Tr), ((Y n 0) = y_13 0 ∧ RG S_10 F_11 i_12 y_13 G_14 T_15) ∧ 3 + dC1 R n j ≤ 3 + nc_i (∃ n i m, n < 4 ∧ p = nI n ∧ dlOk R.Q n x y i m ∧ roP (R.Q.G n) n m) (dC1 R p.toNatClampNeg y.toNatClampNeg) ∧ 18 + dC2 R n j ≤ 18 + nc_i (∃ n i m, n < 4 ∧ p = nI n ∧ dlOk R.Q n x y i m ∧ roP (R.Q.G n) n m) (dC2 R p.toNatClampNeg y.toNatClampNeg) ∧ ((([] : List MV) = [] ∧ mret (some .int) (sp_rde02 t p x y F z Y R kz) [.inr (.inr (some t)), .inl p, .inl x, .inl y] S (some (.inl (nI (T_15.od.filter (vis G_14)).length))) S_10 (3 + dC1 R n j) (18 + dC2 R n j))))))))))) ∧ (¬ (nI m) ≤ (nI j) → (0 = 0 ∧ (∃ (p_17 : Nat), nI n = nI p_17 ∧ (∃ (F_18 : Nat → Nat × Nat) (z_19 : Nat → Nat) (Y_20 : Nat → Nat → Nat) (R_21 : Rb) (kz_22 : Nat → Nat) (s_23 : Nat) (pr_24 : List Nat), (MD S1 F_18 t z_19 Y_20 R_21 kz_22 ∧ p_17 < 4 ∧ raP (R_21.Q.G p_17) (R_21.Q.T p_17) p_17 s_23 (R_21.Q.G p_17).cn pr_24) ∧ (3 + dC1 R n j) + (ad1 (R_21.Q.G p_17) s_23) ≤ 3 + nc_i (∃ n i m, n < 4 ∧ p = nI n ∧ dlOk R.Q n x y i m ∧ roP (R.Q.G n) n m) (dC1 R p.toNatClampNeg y.toNatClampNeg) ∧ (18 + dC2 R n j) + (ad2 (R_21.Q.G p_17) s_23) ≤ 18 + nc_i (∃ n i m, n < 4 ∧ p = nI n ∧ dlOk R.Q n x y i m ∧ roP (R.Q.G n) n m) (dC2 R p.toNatClampNeg y.toNatClampNeg) ∧ (∀ (x_26 : Int32) (S_25 : MM), (x_26 = nI (R_21.Q.G p_17).n) ∧ (ownQ S1 S_25 F_18 t z_19 Y_20 (R_21.sG p_17 (pGr (eGr (R_21.Q.G p_17) s_23 p_17) s_23 (R_21.Q.G p_17).cn pr_24) (R_21.Q.T p_17)) kz_22) → (0 = 0 ∧ (∃ (e_27 : Nat), x_26 = nI e_27 ∧ (∃ (ix_28 : Nat), nI i = nI ix_28 ∧ (∃ (F_29 : Nat → Nat × Nat) (i_30 : Nat) (y_31 : Nat → Nat) (G_32 : Gr) (T_33 : Tr), ((Y n 0) = y_31 0 ∧ RG S_25 F_29 i_30 y_31 G_32 T_33 ∧ e_27 + 1 = G_32.n ∧ (G_32.ev e_27).ch = none ∧ (G_32.ev e_27).tg = 8192 ∧ ix_28 < (T_33.od.filter (snW G_32 (G_32.ev e_27).pa)).length) ∧ (3 + dC1 R n j) + (ad1 (R_21.Q.G p_17) s_23) ≤ 3 + nc_i (∃ n i m, n < 4 ∧ p = nI n ∧ dlOk R.Q n x y i m ∧ roP (R.Q.G n) n m) (dC1 R p.toNatClampNeg y.toNatClampNeg) ∧ (18 + dC2 R n j) + (ad2 (R_21.Q.G p_17) s_23) ≤ 18 + nc_i (∃ n i m, n < 4 ∧ p = nI n ∧ dlOk R.Q n x y i m ∧ roP (R.Q.G n) n m) (dC2 R p.toNatClampNeg y.toNatClampNeg) ∧ (∀ (S_34 : MM), (∃ j t, atP T_33.od (snW G_32 (G_32.ev e_27).pa) ix_28 j ∧ T_33.od.getD j 0 = t + 1 ∧ RG S_34 F_29 i_30 y_31 (G_32.setD e_27 ix_28 t) T_33 ∧ Keep (gO F_29 i_30) S_25 S_34 ∧ mI S_34 1326 (y_31 0) = mI S_25 1326 (y_31 0)) → (∃ k1, k1 < k ∧ I_rdl2 t p x y F z Y R kz S k1 [(0, .inr (.inr (some t))), (1, .inl (nI n)), (2, .inl (nI i)), (3, .inl (nI m)), (4, .inr (.inr (some (Y n 0)))), (6, .inl (nI (agE (R.Q.G n) n).length)), (7, .inl ((nI j) + (1 : Int32)))] [] S_34 ((3 + dC1 R n j) + (ad1 (R_21.Q.G p_17) s_23)) ((18 + dC2 R n j) + (ad2 (R_21.Q.G p_17) s_23))))))))))))))
      obtain ⟨hM0, hA⟩ := hp
      obtain ⟨o1, o2, o3, o4⟩ := id hd
      obtain ⟨hG, hC⟩ := hA n hn
      obtain ⟨h1, hF, hK, h51, hy, hRun, hGT, hOw, hGn, hGc⟩ := hM
      have g0 := (hM0 2 n hn).2.1
      have hnm := g0.nm
      have hol := g0.odl
      have hfl : visN (R.Q.G n) (R.Q.T n) ≤ (R.Q.T n).od.length := List.length_filter_le _ _
      have hr := hro.resolve_left (by omega)
      have cp : p.toNatClampNeg = n := by rw [hpn]; exact nI_clamp (by omega)
      have cy : y.toNatClampNeg = m := by rw [o4]; exact nI_clamp (by omega)
      have eG : (R.sG n G1 T1).Q.G n = G1 := upF_s
      have eT : (R.sG n G1 T1).Q.T n = T1 := upF_s
      have budget : ∀ j', j' ≤ m → 3 + dC1 R n j' ≤ 3 + nc_i (∃ n i m, n < 4 ∧ p = nI n ∧ dlOk R.Q n x y i m ∧ roP (R.Q.G n) n m) (dC1 R p.toNatClampNeg y.toNatClampNeg) ∧ 18 + dC2 R n j' ≤ 18 + nc_i (∃ n i m, n < 4 ∧ p = nI n ∧ dlOk R.Q n x y i m ∧ roP (R.Q.G n) n m) (dC2 R p.toNatClampNeg y.toNatClampNeg) := fun j' hj' => by
        rw [nc_it ⟨n, i, m, hn, hpn, hd, hro⟩, nc_it ⟨n, i, m, hn, hpn, hd, hro⟩, cp, cy]
        have := rA_mono ((R.Q.G n).cn (owN (R.Q.G n) n)) hj'
        unfold dC1 dC2
        omega
      have hal : (agE (R.Q.G n) n).length ≤ 8192 := by
        have := List.length_filter_le (fun k => decide ((R.Q.G n).ag ((R.Q.G n).ev k).sl = n)) (List.range (R.Q.G n).n)
        rw [List.length_range] at this
        exact Nat.le_trans this hnm.1
      refine if_le (by omega) (by omega) (fun w => ?_) (fun w => ?_)
      · have hjm : j = m := by omega
        subst hjm
        obtain ⟨b1, b2⟩ := budget j (Nat.le_refl _)
        refine ⟨rfl, _, rfl, j, rfl, F1, z, Y1, R.sG n G1 T1, kz, n, false, ⟨h1, hn, hy.symm, rfl, show (R.C n).length < 8192 by omega, by omega⟩, b1, b2, fun S10 hQ => ?_⟩
        obtain ⟨q1, q2, q3⟩ := hQ
        rw [if_neg (show j ≠ 0 by omega), eG, eT, sG_sP] at q1
        have q1 : MD S10 F1 t z Y1 (R.sP n G1 T1 (R.Q.Kn n) (R.C n ++ [(false, (agE (R.Q.G n) n).length, j)])) kz := q1
        have g10 : RG S10 F1 (101 + n) (Y1 n) G1 T1 := by
          have := (q1 2 n hn).2.1
          have e1 : (R.sP n G1 T1 (R.Q.Kn n) (R.C n ++ [(false, (agE (R.Q.G n) n).length, j)])).Q.G n = G1 := upF_s
          have e2 : (R.sP n G1 T1 (R.Q.Kn n) (R.C n ++ [(false, (agE (R.Q.G n) n).length, j)])).Q.T n = T1 := upF_s
          rw [e1, e2] at this
          exact this
        exact ⟨rfl, F1, 101 + n, Y1 n, G1, T1, ⟨hy.symm, g10⟩, b1, b2, rfl, trivial, ⟨_, rfl, n, i, j, G1, T1, hn, hpn, hd, hro, hRun, rfl, F1, z, Y1, q1, hF, Keep.trN hK q2 (fun b hb q => by rw [hF b hb] at q; exact q), q3.trans h51⟩, b1, b2⟩
      · obtain ⟨H, hH, -, -⟩ := hd_ex hGT.1
        obtain ⟨c1, c2⟩ := dC_s R n j hGc
        obtain ⟨b1, b2⟩ := budget (j + 1) w
        rw [← c1] at b1
        rw [← c2] at b2
        refine ⟨rfl, n, rfl, F1, z, Y1, R.sG n G1 T1, kz, owN (R.Q.G n) n, H, ⟨h1, hn, ?_⟩, ?_, ?_, fun v S25 hQ => ?_⟩
        · rw [eG, eT]; exact own_pre hGT hOw (by omega) (by omega) hH
        · rw [eG]; omega
        · rw [eG]; omega
        · rw [eG, eT] at hQ
          rw [eG]
          obtain ⟨rfl, F2, Y2, h2, f2, k2, m2, y2⟩ := hQ
          rw [sG_sG] at h2
          obtain ⟨pa1, pa2, pa3⟩ := own_pa G1 (owN (R.Q.G n) n) n G1.cn H
          have eG2 : (R.sG n (pGr (eGr G1 (owN (R.Q.G n) n) n) (owN (R.Q.G n) n) G1.cn H) T1).Q.G n = pGr (eGr G1 (owN (R.Q.G n) n) n) (owN (R.Q.G n) n) G1.cn H := upF_s
          have eT2 : (R.sG n (pGr (eGr G1 (owN (R.Q.G n) n) n) (owN (R.Q.G n) n) G1.cn H) T1).Q.T n = T1 := upF_s
          have g2 := (h2 2 n hn).2.1
          rw [eG2, eT2] at g2
          have hix : i < visN G1 T1 := by omega
          refine ⟨rfl, G1.n, rfl, i, rfl, F2, 101 + n, Y2 n, _, T1, ⟨(hy.symm.trans (y2 n).symm), g2, ?_, pa2, pa3, ?_⟩, by omega, by omega, fun S34 hE => ?_⟩
          · show G1.n + 1 = (eGr G1 (owN (R.Q.G n) n) n).n + 1
            rw [(eGr_n G1 _ n).1]
          · rw [pa1, own_len hGT hOw (by omega)]; exact hix
          · obtain ⟨j', t', a1, a2, a3, a4, a5⟩ := hE
            rw [pa1] at a1
            have hO := own_del hGT hOw (by omega) (by omega) hH hix a1 a2
            obtain ⟨x1, x2, x3, x4⟩ := hO.nx hOw
            have hvd : visN ((pGr (eGr G1 (owN (R.Q.G n) n) n) (owN (R.Q.G n) n) G1.cn H).setD G1.n i t') T1 + 1 = visN G1 T1 := by
              obtain ⟨H', hH', hst⟩ := hO
              exact hst.visD (hOw.gt hGT (by omega)) (hH'.jn hGT.1)
            have hFO : FO S34 F2 := fun b hb => (a4.1 b (h2 12 b hb)).1
            have hMD := h2.gr hn a4 a5 a3 (fun _ _ => rfl) (fun _ _ => rfl) hFO (fun s => by rw [eG2, setD_cn]; exact Nat.le_refl _) (fun x hx => by rw [eT2] at hx; exact hx)
            have eY : (fun k => if 116 ≤ k then Y2 n k else Y2 n k) = Y2 n := funext (fun k => by split <;> rfl)
            rw [eY, upY_own, sG_sG] at hMD
            have kt := a4.2.1 t (h2 0).1.1 (fun q => by
              have := q.own
              rw [(h2 0).2] at this
              have : 100 = 101 + n := this
              omega)
            have hF2 : ∀ b, b ∈ mL S → F2 b = F b := fun b hb => (f2 b (hK.1 b hb).1).trans (hF b hb)
            have kA : Keep (fun c => 100 ≤ (F c).1) S S25 := Keep.trN hK k2 (fun b hb q => by rw [hF b hb] at q; exact q)
            refine ⟨k - 1, by omega, n, i, m, j + 1, F2, Y2, _, T1, by omega, hn, hpn, hd, hro, ⟨hMD, hF2, Keep.trN kA a4 (fun b hb q => by have := q.own; rw [hF2 b hb] at this; omega), (kt.1 1551).trans (m2.trans h51), (y2 n).trans hy, ?_, x4, x3, by omega, by omega⟩, by omega, by rw [nI_1], rfl, by omega, by omega⟩
            rw [List.replicate_succ']
            exact hRun.snoc hO
theorem u_rde02 (l : Launch) (hlt : l.stackTraces = false) : UsX l yX14_delete0 (Cond.code yX14_delete0 cX14_delete0 8 (some .int)) (some .int) 8 130 15 T_rde02 := by
  intro Rc Rs av S cs sl K Kx h
  unfold T_rde02 at h
  split at h
  · rename_i t_o p x y
    obtain ⟨t, rfl, h_1⟩ := pa_of h
    obtain ⟨F, z, Y, R, kz, hp, hc, hs, hk, hx0, hx1⟩ := h_1
    refine ⟨(sp_rde02 t p x y F z Y R kz), c_rde02 l hlt t p x y F z Y R kz, fun _ _ h9 => ⟨_, _, h9.1, (h9.2.1 0).1⟩, ⟨rfl, hp⟩, hc, hs, fun v9 S' h8 => by
      obtain ⟨v8, h7, h8⟩ := h8
      cases h7
      exact hk _ _ h8, fun _ _ q => by
      rcases q with ⟨rfl, q⟩ | ⟨rfl, q⟩
      · obtain ⟨q, rfl⟩ := q
        exact hx0 q
      · obtain ⟨q, rfl⟩ := q
        exact hx1 q⟩
  · exact h.elim
def T_rde12 : TR := fun Rc Rs av S cs sl K _Kx => match av with
  | [.inr (.inr t_o), .inl p, .inl x, .inl y] => pa t_o fun t => (∃ (F : Nat → Nat × Nat) (z : Nat → Nat) (Y : Nat → Nat → Nat) (R : Rb) (kz : Nat → Nat), (MD S F t z Y R kz ∧ AbC R) ∧ cs + (3 + nc_i (∃ n i m, n < 4 ∧ p = nI n ∧ dlOk R.Q n x y i m ∧ roP (R.Q.G n) n m) (dC1 R p.toNatClampNeg y.toNatClampNeg)) ≤ Rc ∧ sl + (18 + nc_i (∃ n i m, n < 4 ∧ p = nI n ∧ dlOk R.Q n x y i m ∧ roP (R.Q.G n) n m) (dC2 R p.toNatClampNeg y.toNatClampNeg)) ≤ Rs ∧ (∀ (v : Int32) (S' : MM), ((∃ n i m G' T', n < 4 ∧ p = nI n ∧ dlOk R.Q n x y i m ∧ roP (R.Q.G n) n m ∧ Run n (owN (R.Q.G n) n) (List.replicate m (none, i)) (R.Q.G n) (R.Q.T n) G' T' ∧ v = nI (visN G' T') ∧ mdW S S' F t (R.sP n G' T' (R.Q.Kn n) (R.C n ++ [(false, (agE (R.Q.G n) n).length, m)])) kz 0) ∨ ((np 4 p ∨ ∃ n, n < 4 ∧ p = nI n ∧ ¬ ∃ i m, dlOk R.Q n x y i m) ∧ v = 0 ∧ mdW S S' F t R kz 1) ∨ ((∃ n i m, n < 4 ∧ p = nI n ∧ dlOk R.Q n x y i m ∧ ¬ roP (R.Q.G n) n m) ∧ v = 0 ∧ mdW S S' F t R kz 2)) → K (some (.inl v)) S' (cs + (3 + nc_i (∃ n i m, n < 4 ∧ p = nI n ∧ dlOk R.Q n x y i m ∧ roP (R.Q.G n) n m) (dC1 R p.toNatClampNeg y.toNatClampNeg))) (sl + (18 + nc_i (∃ n i m, n < 4 ∧ p = nI n ∧ dlOk R.Q n x y i m ∧ roP (R.Q.G n) n m) (dC2 R p.toNatClampNeg y.toNatClampNeg)))))
  | _ => False
noncomputable def sp_rde12 (t : Nat) (p : Int32) (x : Int32) (y : Int32) (F : Nat → Nat × Nat) (z : Nat → Nat) (Y : Nat → Nat → Nat) (R : Rb) (kz : Nat → Nat) : Sp := (fun av S => av = [.inr (.inr (some t)), .inl p, .inl x, .inl y] ∧ (MD S F t z Y R kz ∧ AbC R), fun _ S => 3 + nc_i (∃ n i m, n < 4 ∧ p = nI n ∧ dlOk R.Q n x y i m ∧ roP (R.Q.G n) n m) (dC1 R p.toNatClampNeg y.toNatClampNeg), fun _ S => 18 + nc_i (∃ n i m, n < 4 ∧ p = nI n ∧ dlOk R.Q n x y i m ∧ roP (R.Q.G n) n m) (dC2 R p.toNatClampNeg y.toNatClampNeg), fun _ S rv S' => ∃ v, rv = (some (.inl v)) ∧ ((∃ n i m G' T', n < 4 ∧ p = nI n ∧ dlOk R.Q n x y i m ∧ roP (R.Q.G n) n m ∧ Run n (owN (R.Q.G n) n) (List.replicate m (none, i)) (R.Q.G n) (R.Q.T n) G' T' ∧ v = nI (visN G' T') ∧ mdW S S' F t (R.sP n G' T' (R.Q.Kn n) (R.C n ++ [(false, (agE (R.Q.G n) n).length, m)])) kz 0) ∨ ((np 4 p ∨ ∃ n, n < 4 ∧ p = nI n ∧ ¬ ∃ i m, dlOk R.Q n x y i m) ∧ v = 0 ∧ mdW S S' F t R kz 1) ∨ ((∃ n i m, n < 4 ∧ p = nI n ∧ dlOk R.Q n x y i m ∧ ¬ roP (R.Q.G n) n m) ∧ v = 0 ∧ mdW S S' F t R kz 2)), fun _ _ _ _ => False)
set_option maxRecDepth 100000 in
set_option maxHeartbeats 2000000 in
theorem c_rde12 (l : Launch) (hlt : l.stackTraces = false) : ∀ (t : Nat) (p : Int32) (x : Int32) (y : Int32) (F : Nat → Nat × Nat) (z : Nat → Nat) (Y : Nat → Nat → Nat) (R : Rb) (kz : Nat → Nat), CtX l yX14_delete (Cond.codeWith yX14_delete cX14_delete 5 (some .int) [(5, 12, 13, 138), (5, 12, 23, 156)]) (some .int) 9 157 (sp_rde12 t p x y F z Y R kz) := by
  intro t p x y F z Y R kz
  refine CtX.ofH hlt (fX14, nX14, aX14, iX14, lX14, [(525, 0, 4, 1, T_rde02)], qX14, gX14, []) false tX14_delete [((5, 12, 13, 138), 1), ((5, 12, 23, 156), 0)] (fun _ _ _ => none) (by decide) (by decide) kX14_delete ⟨_, _, rfl⟩ fX14_ok nX14_ok aX14_ok iX14_ok lX14_ok (fun p e R s m args below meth c Q D cy z r A C hR1 hR2 => List.forall_mem_cons.mpr ⟨cOK_use (fun _ _ _ _ _ _ _ _ h => let ⟨sp, h1, h2, h3⟩ := u_rde02 l hlt _ _ _ _ _ _ _ _ h; ⟨sp, cOKx_V C h1 vX14_delete_525 ⟨by decide, by decide, by decide +kernel⟩ ⟨by rw [hR1]; decide, by rw [hR2]; decide⟩ (k := 15) (T := TX14) (N := 52) rfl (by decide) h2, h3⟩), fun _ h => absurd h List.not_mem_nil⟩) qX14_ok gX14_ok rfl (List.forall_mem_cons.mpr ⟨⟨by decide, mgd 1925 (by decide +kernel) (by decide +kernel)⟩, List.forall_mem_cons.mpr ⟨⟨by decide, mgd 1915 (by decide +kernel) (by decide +kernel)⟩, fun _ h => absurd h List.not_mem_nil⟩⟩) (fun _ _ _ _ z => z) ?_ ?_
  · rintro _ S ⟨rfl, hp⟩
    refine ⟨Nat.le_of_ble_eq_true rfl, 300, ?_⟩
    show (True ∧ (isO S 15 t ∧ (0 = 0 ∧ (∃ (F_1 : Nat → Nat × Nat) (z_2 : Nat → Nat) (Y_3 : Nat → Nat → Nat) (R_4 : Rb) (kz_5 : Nat → Nat), (MD (sI S 1551 t (0 : Int32)) F_1 t z_2 Y_3 R_4 kz_5 ∧ AbC R_4) ∧ 0 + (3 + nc_i (∃ n i m, n < 4 ∧ p = nI n ∧ dlOk R_4.Q n x y i m ∧ roP (R_4.Q.G n) n m) (dC1 R_4 p.toNatClampNeg y.toNatClampNeg)) ≤ 3 + nc_i (∃ n i m, n < 4 ∧ p = nI n ∧ dlOk R.Q n x y i m ∧ roP (R.Q.G n) n m) (dC1 R p.toNatClampNeg y.toNatClampNeg) ∧ 0 + (18 + nc_i (∃ n i m, n < 4 ∧ p = nI n ∧ dlOk R_4.Q n x y i m ∧ roP (R_4.Q.G n) n m) (dC2 R_4 p.toNatClampNeg y.toNatClampNeg)) ≤ 18 + nc_i (∃ n i m, n < 4 ∧ p = nI n ∧ dlOk R.Q n x y i m ∧ roP (R.Q.G n) n m) (dC2 R p.toNatClampNeg y.toNatClampNeg) ∧ ((∀ (x_7 : Int32) (S_6 : MM), (rdQ2 (sI S 1551 t (0 : Int32)) S_6 F_1 t R_4 kz_5 p x y x_7) → (([] : List MV) = [] ∧ mret (some .int) (sp_rde12 t p x y F z Y R kz) [.inr (.inr (some t)), .inl p, .inl x, .inl y] S (some (.inl x_7)) S_6 (0 + (3 + nc_i (∃ n i m, n < 4 ∧ p = nI n ∧ dlOk R_4.Q n x y i m ∧ roP (R_4.Q.G n) n m) (dC1 R_4 p.toNatClampNeg y.toNatClampNeg))) (0 + (18 + nc_i (∃ n i m, n < 4 ∧ p = nI n ∧ dlOk R_4.Q n x y i m ∧ roP (R_4.Q.G n) n m) (dC2 R_4 p.toNatClampNeg y.toNatClampNeg))))) ∧ ((np 4 p ∨ ∃ n, n < 4 ∧ p = nI n ∧ ¬ ∃ i m, dlOk R_4.Q n x y i m) → (∀ e_9, (True ∧ (isO (sI S 1551 t (0 : Int32)) 15 t ∧ (([] : List MV) = [] ∧ mret (some .int) (sp_rde12 t p x y F z Y R kz) [.inr (.inr (some t)), .inl p, .inl x, .inl y] S (some (.inl (0 : Int32))) (sI (sI S 1551 t (0 : Int32)) 1551 t (1 : Int32)) (0 + (3 + nc_i (∃ n i m, n < 4 ∧ p = nI n ∧ dlOk R_4.Q n x y i m ∧ roP (R_4.Q.G n) n m) (dC1 R_4 p.toNatClampNeg y.toNatClampNeg))) (0 + (18 + nc_i (∃ n i m, n < 4 ∧ p = nI n ∧ dlOk R_4.Q n x y i m ∧ roP (R_4.Q.G n) n m) (dC2 R_4 p.toNatClampNeg y.toNatClampNeg)))))))) ∧ ((∃ n i m, n < 4 ∧ p = nI n ∧ dlOk R_4.Q n x y i m ∧ ¬ roP (R_4.Q.G n) n m) → (∀ e_11, (True ∧ (isO (sI S 1551 t (0 : Int32)) 15 t ∧ (([] : List MV) = [] ∧ mret (some .int) (sp_rde12 t p x y F z Y R kz) [.inr (.inr (some t)), .inl p, .inl x, .inl y] S (some (.inl (0 : Int32))) (sI (sI S 1551 t (0 : Int32)) 1551 t (2 : Int32)) (0 + (3 + nc_i (∃ n i m, n < 4 ∧ p = nI n ∧ dlOk R_4.Q n x y i m ∧ roP (R_4.Q.G n) n m) (dC1 R_4 p.toNatClampNeg y.toNatClampNeg))) (0 + (18 + nc_i (∃ n i m, n < 4 ∧ p = nI n ∧ dlOk R_4.Q n x y i m ∧ roP (R_4.Q.G n) n m) (dC2 R_4 p.toNatClampNeg y.toNatClampNeg)))))))))))))
    obtain ⟨hp, hA⟩ := hp
    refine ⟨trivial, (hp 0).1, rfl, F, z, Y, R, kz, ⟨hp.th 0, hA⟩, by omega, by omega, fun v S3 h => ?_, fun h e => ⟨trivial, (hp 0).1, rfl, trivial, ⟨_, rfl, Or.inr (Or.inl ⟨h, rfl, (hp.ex0 1 rfl).w hp⟩)⟩, Nat.le_of_eq (Nat.zero_add _), Nat.le_of_eq (Nat.zero_add _)⟩, fun h e => ⟨trivial, (hp 0).1, rfl, trivial, ⟨_, rfl, Or.inr (Or.inr ⟨h, rfl, (hp.ex0 2 rfl).w hp⟩)⟩, Nat.le_of_eq (Nat.zero_add _), Nat.le_of_eq (Nat.zero_add _)⟩⟩
    obtain ⟨n, i, m, G', T', h1, h2, h3, h4, h5, h6, h7⟩ := h
    exact ⟨rfl, trivial, ⟨_, rfl, Or.inl ⟨n, i, m, G', T', h1, h2, h3, h4, h5, h6, h7.ok hp⟩⟩, Nat.le_of_eq (Nat.zero_add _), Nat.le_of_eq (Nat.zero_add _)⟩
  · exact fun _ _ _ _ _ h => by cases h
theorem u_rde12 (l : Launch) (hlt : l.stackTraces = false) : UsX l yX14_delete (Cond.codeWith yX14_delete cX14_delete 5 (some .int) [(5, 12, 13, 138), (5, 12, 23, 156)]) (some .int) 9 157 15 T_rde12 := by
  intro Rc Rs av S cs sl K Kx h
  unfold T_rde12 at h
  split at h
  · rename_i t_o p x y
    obtain ⟨t, rfl, h_1⟩ := pa_of h
    obtain ⟨F, z, Y, R, kz, hp, hc, hs, hk⟩ := h_1
    refine ⟨(sp_rde12 t p x y F z Y R kz), c_rde12 l hlt t p x y F z Y R kz, fun _ _ h9 => ⟨_, _, h9.1, (h9.2.1 0).1⟩, ⟨rfl, hp⟩, hc, hs, fun v9 S' h8 => by
      obtain ⟨v8, h7, h8⟩ := h8
      cases h7
      exact hk _ _ h8, fun _ _ q => q.elim⟩
  · exact h.elim
def T_rin02 : TR := fun Rc Rs av S cs sl K Kx => match av with
  | [.inr (.inr t_o), .inl p, .inl x] => pa t_o fun t => (∃ (F : Nat → Nat × Nat) (z : Nat → Nat) (Y : Nat → Nat → Nat) (R : Rb) (kz : Nat → Nat), (MD S F t z Y R kz ∧ AbC R) ∧ cs + (4 + nc_i (∃ (n i : Nat) (L : List Nat), n < 4 ∧ p = nI n ∧ inX R n x i ∧ syms R.Q.tp = some (L.map nI) ∧ roP (R.Q.G n) n L.length) (dC1 R p.toNatClampNeg (tNs R))) ≤ Rc ∧ sl + (24 + nc_i (∃ (n i : Nat) (L : List Nat), n < 4 ∧ p = nI n ∧ inX R n x i ∧ syms R.Q.tp = some (L.map nI) ∧ roP (R.Q.G n) n L.length) (dC2 R p.toNatClampNeg (tNs R))) ≤ Rs ∧ ((∀ (v : Int32) (S' : MM), (rinQ S S' F t R kz p x v) → K (some (.inl v)) S' (cs + (4 + nc_i (∃ (n i : Nat) (L : List Nat), n < 4 ∧ p = nI n ∧ inX R n x i ∧ syms R.Q.tp = some (L.map nI) ∧ roP (R.Q.G n) n L.length) (dC1 R p.toNatClampNeg (tNs R)))) (sl + (24 + nc_i (∃ (n i : Nat) (L : List Nat), n < 4 ∧ p = nI n ∧ inX R n x i ∧ syms R.Q.tp = some (L.map nI) ∧ roP (R.Q.G n) n L.length) (dC2 R p.toNatClampNeg (tNs R))))) ∧ ((np 4 p ∨ ∃ n, n < 4 ∧ p = nI n ∧ np (visN (R.Q.G n) (R.Q.T n) + 1) x) → Kx 1 S (cs + (4 + nc_i (∃ (n i : Nat) (L : List Nat), n < 4 ∧ p = nI n ∧ inX R n x i ∧ syms R.Q.tp = some (L.map nI) ∧ roP (R.Q.G n) n L.length) (dC1 R p.toNatClampNeg (tNs R)))) (sl + (24 + nc_i (∃ (n i : Nat) (L : List Nat), n < 4 ∧ p = nI n ∧ inX R n x i ∧ syms R.Q.tp = some (L.map nI) ∧ roP (R.Q.G n) n L.length) (dC2 R p.toNatClampNeg (tNs R))))) ∧ (∀ (S' : MM), ((∃ n i, n < 4 ∧ p = nI n ∧ inX R n x i) ∧ syms R.Q.tp = none ∧ mdQ S S' F t (rtE R) kz) → Kx 3 S' (cs + (4 + nc_i (∃ (n i : Nat) (L : List Nat), n < 4 ∧ p = nI n ∧ inX R n x i ∧ syms R.Q.tp = some (L.map nI) ∧ roP (R.Q.G n) n L.length) (dC1 R p.toNatClampNeg (tNs R)))) (sl + (24 + nc_i (∃ (n i : Nat) (L : List Nat), n < 4 ∧ p = nI n ∧ inX R n x i ∧ syms R.Q.tp = some (L.map nI) ∧ roP (R.Q.G n) n L.length) (dC2 R p.toNatClampNeg (tNs R))))) ∧ (∀ (S' : MM), ((∃ (n i : Nat) (L : List Nat), n < 4 ∧ p = nI n ∧ inX R n x i ∧ syms R.Q.tp = some (L.map nI) ∧ ¬ roP (R.Q.G n) n L.length) ∧ mdQ S S' F t (rtE R) kz) → Kx 0 S' (cs + (4 + nc_i (∃ (n i : Nat) (L : List Nat), n < 4 ∧ p = nI n ∧ inX R n x i ∧ syms R.Q.tp = some (L.map nI) ∧ roP (R.Q.G n) n L.length) (dC1 R p.toNatClampNeg (tNs R)))) (sl + (24 + nc_i (∃ (n i : Nat) (L : List Nat), n < 4 ∧ p = nI n ∧ inX R n x i ∧ syms R.Q.tp = some (L.map nI) ∧ roP (R.Q.G n) n L.length) (dC2 R p.toNatClampNeg (tNs R)))))))
  | _ => False
noncomputable def sp_rin02 (t : Nat) (p : Int32) (x : Int32) (F : Nat → Nat × Nat) (z : Nat → Nat) (Y : Nat → Nat → Nat) (R : Rb) (kz : Nat → Nat) : Sp := (fun av S => av = [.inr (.inr (some t)), .inl p, .inl x] ∧ (MD S F t z Y R kz ∧ AbC R), fun _ S => 4 + nc_i (∃ (n i : Nat) (L : List Nat), n < 4 ∧ p = nI n ∧ inX R n x i ∧ syms R.Q.tp = some (L.map nI) ∧ roP (R.Q.G n) n L.length) (dC1 R p.toNatClampNeg (tNs R)), fun _ S => 24 + nc_i (∃ (n i : Nat) (L : List Nat), n < 4 ∧ p = nI n ∧ inX R n x i ∧ syms R.Q.tp = some (L.map nI) ∧ roP (R.Q.G n) n L.length) (dC2 R p.toNatClampNeg (tNs R)), fun _ S rv S' => ∃ v, rv = (some (.inl v)) ∧ (rinQ S S' F t R kz p x v), fun _ S E S' => (E = 1 ∧ (np 4 p ∨ ∃ n, n < 4 ∧ p = nI n ∧ np (visN (R.Q.G n) (R.Q.T n) + 1) x) ∧ S' = S) ∨ (E = 3 ∧ ((∃ n i, n < 4 ∧ p = nI n ∧ inX R n x i) ∧ syms R.Q.tp = none ∧ mdQ S S' F t (rtE R) kz)) ∨ (E = 0 ∧ ((∃ (n i : Nat) (L : List Nat), n < 4 ∧ p = nI n ∧ inX R n x i ∧ syms R.Q.tp = some (L.map nI) ∧ ¬ roP (R.Q.G n) n L.length) ∧ mdQ S S' F t (rtE R) kz)))
set_option maxRecDepth 100000 in
set_option maxHeartbeats 2000000 in
theorem c_rin02 (l : Launch) (hlt : l.stackTraces = false) : ∀ (t : Nat) (p : Int32) (x : Int32) (F : Nat → Nat × Nat) (z : Nat → Nat) (Y : Nat → Nat → Nat) (R : Rb) (kz : Nat → Nat), CtX l yX14_insert0 (Cond.code yX14_insert0 cX14_insert0 6 (some .int)) (some .int) 8 130 (sp_rin02 t p x F z Y R kz) := by
  intro t p x F z Y R kz
  refine CtX.of hlt (fX14, nX14, aX14, iX14, lX14, [(203, 0, 2, 3, T_rgr), (207, 0, 1, 1, T_rln), (144, 2, 3, 1, T_rin), (148, 2, 1, 0, T_rck), (211, 0, 1, 0, T_rrtp), (214, 0, 4, 0, T_rnr), (218, 0, 2, 1, T_rco), (221, 0, 2, 1, T_row8), (224, 0, 4, 0, T_ris), (228, 0, 5, 0, T_rnt2)], qX14, gX14, []) false tX14_insert0 (fun _ S => look [(18, ([0,1,2,3], I_rin1 t p x Y R S)), (42, ([0,1,2,3,4,5], I_rin2 t p x F z Y R kz S))]) (by decide) (by decide) kX14_insert0 ⟨_, _, rfl⟩ fX14_ok nX14_ok aX14_ok iX14_ok lX14_ok (fun p e R s m args below meth c Q D cy z r A C hR1 hR2 => List.forall_mem_cons.mpr ⟨cOK_use (fun _ _ _ _ _ _ _ _ h => let ⟨sp, h1, h2, h3⟩ := u_rgr l hlt _ _ _ _ _ _ _ _ h; ⟨sp, cOKx_V C h1 vX14_insert0_203 ⟨by decide, by decide, by decide +kernel⟩ ⟨by rw [hR1]; decide, by rw [hR2]; decide⟩ (k := 15) (T := TX14) (N := 52) rfl (by decide) h2, h3⟩), List.forall_mem_cons.mpr ⟨cOK_use (fun _ _ _ _ _ _ _ _ h => let ⟨sp, h1, h2, h3⟩ := u_rln l _ _ _ _ _ _ _ _ h; ⟨sp, cOK_V C h1 vX14_insert0_207 ⟨by decide, by decide, by decide +kernel⟩ ⟨by rw [hR1]; decide, by rw [hR2]; decide⟩ (k := 13) (T := TX12) (N := 27) rfl (by decide) h2, h3⟩), List.forall_mem_cons.mpr ⟨cOK_use (fun _ _ _ _ _ _ _ _ h => let ⟨sp, h1, _, h3⟩ := u_rin l _ _ _ _ _ _ _ _ h; ⟨sp, cOK_S C h1 vX14_insert0_144 ⟨by decide, by decide, by decide +kernel⟩ ⟨by rw [hR1]; decide, by rw [hR2]; decide⟩, h3⟩), List.forall_mem_cons.mpr ⟨cOK_use (fun _ _ _ _ _ _ _ _ h => let ⟨sp, h1, _, h3⟩ := u_rck l hlt _ _ _ _ _ _ _ _ h; ⟨sp, cOKx_S C h1 vX14_insert0_148 ⟨by decide, by decide, by decide +kernel⟩ ⟨by rw [hR1]; decide, by rw [hR2]; decide⟩, h3⟩), List.forall_mem_cons.mpr ⟨cOK_use (fun _ _ _ _ _ _ _ _ h => let ⟨sp, h1, h2, h3⟩ := u_rrtp l hlt _ _ _ _ _ _ _ _ h; ⟨sp, cOKx_V C h1 vX14_insert0_211 ⟨by decide, by decide, by decide +kernel⟩ ⟨by rw [hR1]; decide, by rw [hR2]; decide⟩ (k := 15) (T := TX14) (N := 52) rfl (by decide) h2, h3⟩), List.forall_mem_cons.mpr ⟨cOK_use (fun _ _ _ _ _ _ _ _ h => let ⟨sp, h1, h2, h3⟩ := u_rnr l hlt _ _ _ _ _ _ _ _ h; ⟨sp, cOKx_V C h1 vX14_insert0_214 ⟨by decide, by decide, by decide +kernel⟩ ⟨by rw [hR1]; decide, by rw [hR2]; decide⟩ (k := 15) (T := TX14) (N := 52) rfl (by decide) h2, h3⟩), List.forall_mem_cons.mpr ⟨cOK_use (fun _ _ _ _ _ _ _ _ h => let ⟨sp, h1, h2, h3⟩ := u_rco l _ _ _ _ _ _ _ _ h; ⟨sp, cOK_V C h1 vX14_insert0_218 ⟨by decide, by decide, by decide +kernel⟩ ⟨by rw [hR1]; decide, by rw [hR2]; decide⟩ (k := 13) (T := TX12) (N := 27) rfl (by decide) h2, h3⟩), List.forall_mem_cons.mpr ⟨cOK_use (fun _ _ _ _ _ _ _ _ h => let ⟨sp, h1, h2, h3⟩ := u_row8 l _ _ _ _ _ _ _ _ h; ⟨sp, cOK_V C h1 vX14_insert0_221 ⟨by decide, by decide, by decide +kernel⟩ ⟨by rw [hR1]; decide, by rw [hR2]; decide⟩ (k := 15) (T := TX14) (N := 52) rfl (by decide) h2, h3⟩), List.forall_mem_cons.mpr ⟨cOK_use (fun _ _ _ _ _ _ _ _ h => let ⟨sp, h1, h2, h3⟩ := u_ris l _ _ _ _ _ _ _ _ h; ⟨sp, cOK_V C h1 vX14_insert0_224 ⟨by decide, by decide, by decide +kernel⟩ ⟨by rw [hR1]; decide, by rw [hR2]; decide⟩ (k := 13) (T := TX12) (N := 27) rfl (by decide) h2, h3⟩), List.forall_mem_cons.mpr ⟨cOK_use (fun _ _ _ _ _ _ _ _ h => let ⟨sp, h1, h2, h3⟩ := u_rnt2 l _ _ _ _ _ _ _ _ h; ⟨sp, cOK_V C h1 vX14_insert0_228 ⟨by decide, by decide, by decide +kernel⟩ ⟨by rw [hR1]; decide, by rw [hR2]; decide⟩ (k := 15) (T := TX14) (N := 52) rfl (by decide) h2, h3⟩), fun _ h => absurd h List.not_mem_nil⟩⟩⟩⟩⟩⟩⟩⟩⟩⟩) qX14_ok gX14_ok (fun _ h => absurd h List.not_mem_nil) ?_ ?_
  · rintro _ S ⟨rfl, hp⟩
    refine ⟨Nat.le_of_ble_eq_true rfl, 300, ?_⟩
    show (0 = 0 ∧ (∃ (F_1 : Nat → Nat × Nat) (z_2 : Nat → Nat) (Y_3 : Nat → Nat → Nat) (R_4 : Rb) (kz_5 : Nat → Nat), (MD S F_1 t z_2 Y_3 R_4 kz_5) ∧ 0 + 1 ≤ 4 + nc_i (∃ (n i : Nat) (L : List Nat), n < 4 ∧ p = nI n ∧ inX R n x i ∧ syms R.Q.tp = some (L.map nI) ∧ roP (R.Q.G n) n L.length) (dC1 R p.toNatClampNeg (tNs R)) ∧ 0 + 6 ≤ 24 + nc_i (∃ (n i : Nat) (L : List Nat), n < 4 ∧ p = nI n ∧ inX R n x i ∧ syms R.Q.tp = some (L.map nI) ∧ roP (R.Q.G n) n L.length) (dC2 R p.toNatClampNeg (tNs R)) ∧ ((∀ (x_7 : Option Nat) (S_6 : MM), (S_6 = S ∧ ∃ n, n < 4 ∧ p = nI n ∧ x_7 = some (Y_3 n 0)) → (0 = 0 ∧ ((pa x_7 fun a_8 => (∃ (F_9 : Nat → Nat × Nat) (i_10 : Nat) (y_11 : Nat → Nat) (G_12 : Gr) (T_13 : Tr), (a_8 = y_11 0 ∧ RG S_6 F_9 i_10 y_11 G_12 T_13) ∧ 0 + 1 ≤ 4 + nc_i (∃ (n i : Nat) (L : List Nat), n < 4 ∧ p = nI n ∧ inX R n x i ∧ syms R.Q.tp = some (L.map nI) ∧ roP (R.Q.G n) n L.length) (dC1 R p.toNatClampNeg (tNs R)) ∧ 0 + 6 ≤ 24 + nc_i (∃ (n i : Nat) (L : List Nat), n < 4 ∧ p = nI n ∧ inX R n x i ∧ syms R.Q.tp = some (L.map nI) ∧ roP (R.Q.G n) n L.length) (dC2 R p.toNatClampNeg (tNs R)) ∧ ((2 = 2 ∧ (True ∧ 0 + 1 ≤ 4 + nc_i (∃ (n i : Nat) (L : List Nat), n < 4 ∧ p = nI n ∧ inX R n x i ∧ syms R.Q.tp = some (L.map nI) ∧ roP (R.Q.G n) n L.length) (dC1 R p.toNatClampNeg (tNs R)) ∧ 0 + 6 ≤ 24 + nc_i (∃ (n i : Nat) (L : List Nat), n < 4 ∧ p = nI n ∧ inX R n x i ∧ syms R.Q.tp = some (L.map nI) ∧ roP (R.Q.G n) n L.length) (dC2 R p.toNatClampNeg (tNs R)) ∧ ((2 = 2 ∧ (((tf ((0 : Int32) ≤ x ∧ x ≤ (nI (T_13.od.filter (vis G_12)).length))) = 0 ∨ (tf ((0 : Int32) ≤ x ∧ x ≤ (nI (T_13.od.filter (vis G_12)).length))) = 1) ∧ 0 + 1 + 1 ≤ 4 + nc_i (∃ (n i : Nat) (L : List Nat), n < 4 ∧ p = nI n ∧ inX R n x i ∧ syms R.Q.tp = some (L.map nI) ∧ roP (R.Q.G n) n L.length) (dC1 R p.toNatClampNeg (tNs R)) ∧ 0 + 6 + 6 ≤ 24 + nc_i (∃ (n i : Nat) (L : List Nat), n < 4 ∧ p = nI n ∧ inX R n x i ∧ syms R.Q.tp = some (L.map nI) ∧ roP (R.Q.G n) n L.length) (dC2 R p.toNatClampNeg (tNs R)) ∧ ((∀ (S_16 : MM), (S_16 = S_6 ∧ (tf ((0 : Int32) ≤ x ∧ x ≤ (nI (T_13.od.filter (vis G_12)).length))) = 1) → (∃ k1, I_rin1 t p x Y R S k1 [(0, .inr (.inr (some t))), (1, .inl p), (2, .inl x), (3, .inr (.inr x_7))] [] S_16 (0 + 1 + 1) (0 + 6 + 6))) ∧ (((tf ((0 : Int32) ≤ x ∧ x ≤ (nI (T_13.od.filter (vis G_12)).length))) = 0) → mthr (sp_rin02 t p x F z Y R kz) [.inr (.inr (some t)), .inl p, .inl x] S 1 S_6 (0 + 1 + 1) (0 + 6 + 6)))))))))))))) ∧ ((np 4 p) → mthr (sp_rin02 t p x F z Y R kz) [.inr (.inr (some t)), .inl p, .inl x] S 1 S (0 + 1) (0 + 6)))))
    obtain ⟨hM, hA⟩ := hp
    have fail : ∀ {a b : Nat}, (np 4 p ∨ ∃ n, n < 4 ∧ p = nI n ∧ np (visN (R.Q.G n) (R.Q.T n) + 1) x) → a ≤ 4 → b ≤ 24 → mthr (sp_rin02 t p x F z Y R kz) [.inr (.inr (some t)), .inl p, .inl x] S 1 S a b := fun h ha hb => ⟨Or.inl ⟨rfl, h, rfl⟩, Nat.le_trans ha (Nat.le_add_right _ _), Nat.le_trans hb (Nat.le_add_right _ _)⟩
    refine ⟨rfl, F, z, Y, R, kz, hM, by omega, by omega, fun v S6 h => ?_, fun h => fail (Or.inl h) (by decide) (by decide)⟩
    obtain ⟨rfl, n, hn, hpn, rfl⟩ := h
    have g := (hM 2 n hn).2.1
    have hnm := g.nm
    have hol := g.odl
    have hfl : ((R.Q.T n).od.filter (vis (R.Q.G n))).length ≤ (R.Q.T n).od.length := List.length_filter_le _ _
    refine ⟨rfl, pa_i rfl ⟨F, 101 + n, Y n, R.Q.G n, R.Q.T n, ⟨rfl, g⟩, by omega, by omega, rfl, trivial, by omega, by omega, rfl, tf_b _, by omega, by omega, fun S16 h => ?_, fun h => fail (Or.inr ⟨n, hn, hpn, in_0k (k := ((R.Q.T n).od.filter (vis (R.Q.G n))).length) (by omega) h⟩) (by decide) (by decide)⟩⟩
    obtain ⟨rfl, h⟩ := h
    obtain ⟨i, hi, rfl⟩ := in_1k (k := ((R.Q.T n).od.filter (vis (R.Q.G n))).length) (by omega) h
    exact ⟨1000000, n, i, rfl, hn, hpn, ⟨Nat.le_of_lt_succ hi, rfl⟩, by rw [hpn], rfl, rfl, rfl, rfl⟩
  · intro av S hpre pc I hI k lo st S1 cs sl h
    obtain ⟨rfl, hp⟩ := hpre
    have hm := look_in hI
    simp only [List.mem_cons, List.not_mem_nil, or_false] at hm
    rcases hm with hm | hm
    · cases hm
      obtain ⟨n, i, rfl, hn, hpn, hX, rfl, rfl, rfl, rfl, rfl⟩ := h
      refine ⟨300, ?_⟩
      show (0 = 0 ∧ (∃ (F_1 : Nat → Nat × Nat) (z_2 : Nat → Nat) (Y_3 : Nat → Nat → Nat) (R_4 : Rb) (kz_5 : Nat → Nat), (MD S F_1 t z_2 Y_3 R_4 kz_5) ∧ 2 + 1 ≤ 4 + nc_i (∃ (n i : Nat) (L : List Nat), n < 4 ∧ p = nI n ∧ inX R n x i ∧ syms R.Q.tp = some (L.map nI) ∧ roP (R.Q.G n) n L.length) (dC1 R p.toNatClampNeg (tNs R)) ∧ 12 + 6 ≤ 24 + nc_i (∃ (n i : Nat) (L : List Nat), n < 4 ∧ p = nI n ∧ inX R n x i ∧ syms R.Q.tp = some (L.map nI) ∧ roP (R.Q.G n) n L.length) (dC2 R p.toNatClampNeg (tNs R)) ∧ ((∀ (S_6 : MM), (tpQ8 S S_6 F_1 t z_2 Y_3 R_4 kz_5 ∧ ∃ L, syms R_4.Q.tp = some L ∧ txP S_6 t z_2 L) → (isO S_6 15 t ∧ (0 = 0 ∧ (∃ (a_7 : Nat), nI n = nI a_7 ∧ (∃ (n_8 : Nat), mI S_6 1518 t = nI n_8 ∧ (∃ (F_9 : Nat → Nat × Nat) (i_10 : Nat) (y_11 : Nat → Nat) (G_12 : Gr) (T_13 : Tr), (isO S_6 15 t ∧ (Y n 0) = y_11 0 ∧ RG S_6 F_9 i_10 y_11 G_12 T_13 ∧ a_7 < 256 ∧ n_8 ≤ 100000) ∧ 2 + 1 + 1 ≤ 4 + nc_i (∃ (n i : Nat) (L : List Nat), n < 4 ∧ p = nI n ∧ inX R n x i ∧ syms R.Q.tp = some (L.map nI) ∧ roP (R.Q.G n) n L.length) (dC1 R p.toNatClampNeg (tNs R)) ∧ 12 + 6 + 6 ≤ 24 + nc_i (∃ (n i : Nat) (L : List Nat), n < 4 ∧ p = nI n ∧ inX R n x i ∧ syms R.Q.tp = some (L.map nI) ∧ roP (R.Q.G n) n L.length) (dC2 R p.toNatClampNeg (tNs R)) ∧ ((∀ (S_14 : MM), (S_14 = S_6 ∧ (n_8 = 0 ∨ G_12.n + n_8 ≤ 8192 ∧ (hasAg G_12 a_7 ∨ G_12.m < 16))) → (0 = 0 ∧ (∃ (a_15 : Nat), nI n = nI a_15 ∧ (∃ (F_16 : Nat → Nat × Nat) (i_17 : Nat) (y_18 : Nat → Nat) (G_19 : Gr) (T_20 : Tr), ((Y n 0) = y_18 0 ∧ RG S_14 F_16 i_17 y_18 G_19 T_20 ∧ a_15 < 256) ∧ 2 + 1 + 1 ≤ 4 + nc_i (∃ (n i : Nat) (L : List Nat), n < 4 ∧ p = nI n ∧ inX R n x i ∧ syms R.Q.tp = some (L.map nI) ∧ roP (R.Q.G n) n L.length) (dC1 R p.toNatClampNeg (tNs R)) ∧ 12 + 6 + 6 ≤ 24 + nc_i (∃ (n i : Nat) (L : List Nat), n < 4 ∧ p = nI n ∧ inX R n x i ∧ syms R.Q.tp = some (L.map nI) ∧ roP (R.Q.G n) n L.length) (dC2 R p.toNatClampNeg (tNs R)) ∧ ((∃ k1, k1 < 1000000 ∧ I_rin2 t p x F z Y R kz S k1 [(0, .inr (.inr (some t))), (1, .inl (nI n)), (2, .inl (nI i)), (3, .inr (.inr (some (Y n 0)))), (4, .inl (nI (agE G_19 a_15).length)), (5, .inl (0 : Int32))] [] S_14 (2 + 1 + 1) (12 + 6 + 6))))))) ∧ ((n_8 ≠ 0 ∧ (8192 < G_12.n + n_8 ∨ ¬ hasAg G_12 a_7 ∧ G_12.m = 16)) → mthr (sp_rin02 t p x F z Y R kz) [.inr (.inr (some t)), .inl p, .inl x] S 0 S_6 (2 + 1 + 1) (12 + 6 + 6))))))))) ∧ (∀ (S_23 : MM), (tpQ8 S S_23 F_1 t z_2 Y_3 R_4 kz_5 ∧ syms R_4.Q.tp = none) → mthr (sp_rin02 t p x F z Y R kz) [.inr (.inr (some t)), .inl p, .inl x] S 3 S_23 (2 + 1) (12 + 6)))))
      obtain ⟨hM, hA⟩ := hp
      refine ⟨rfl, F, z, Y, R, kz, hM, by omega, by omega, fun S6 h => ?_, fun S23 h => ⟨Or.inr (Or.inl ⟨rfl, ⟨n, i, hn, hpn, hX⟩, h.2, (h.1.md hM).1⟩), Nat.le_trans (by decide) (Nat.le_add_right _ _), Nat.le_trans (by decide) (Nat.le_add_right _ _)⟩⟩
      obtain ⟨hQ, L0, hs, hT⟩ := h
      obtain ⟨L, rfl, hLc, hLl⟩ := syms_nat (hM 3).2.2.2.1 (hM 3).2.1 hs
      have hQ1 := hQ.1
      have g6 : RG S6 F (101 + n) (Y n) (R.Q.G n) (R.Q.T n) := (hQ1 2 n hn).2.1
      have e18 : mI S6 1518 t = nI L.length := by rw [hT.1, List.length_map]
      refine ⟨(hQ1 0).1, rfl, n, rfl, L.length, e18, F, 101 + n, Y n, R.Q.G n, R.Q.T n, ⟨(hQ1 0).1, rfl, g6, by omega, by omega⟩, by omega, by omega, fun S14 h => ?_, fun h => ⟨Or.inr (Or.inr ⟨rfl, ⟨n, i, L, hn, hpn, hX, hs, fun r => ?_⟩, (hQ.md hM).1⟩), Nat.le_trans (by decide) (Nat.le_add_right _ _), Nat.le_trans (by decide) (Nat.le_add_right _ _)⟩⟩
      · obtain ⟨rfl, hro⟩ := h
        refine ⟨rfl, n, rfl, F, 101 + n, Y n, R.Q.G n, R.Q.T n, ⟨rfl, g6, by omega⟩, by omega, by omega, L.length, by omega, n, i, L, 0, F, Y, R.Q.G n, R.Q.T n, Nat.zero_add _, hn, hpn, hX, hs, hLc, hro, ⟨?_, fun _ _ => rfl, (hQ.md hM).2, hQ.2.2, rfl, ⟨rfl, rfl⟩, (hA n hn).1, fun hne => owN_ok (hro.resolve_left hne).2, rfl, rfl⟩, hT, rfl, rfl, rfl, rfl, rfl⟩
        have := sG_id (rtE R) n
        show MD _ F t z Y ((rtE R).sG n ((rtE R).Q.G n) ((rtE R).Q.T n)) kz
        rw [this]; exact hQ1
      · rcases r with r | r
        · omega
        · rcases h.2 with q | q
          · omega
          · rcases r.2 with w | w
            · exact q.1 w
            · omega
    · cases hm
      obtain ⟨n, i, L, j, F1, Y1, G1, T1, hj, hn, hpn, hX, hsy, hLc, hro, hM, hTx, hv, rfl, rfl, rfl, rfl⟩ := h
      refine ⟨300, ?_⟩
      show (isO S1 15 t ∧ (((mI S1 1518 t) ≤ (nI j) → (isO S1 15 t ∧ (0 = 0 ∧ (∃ (f_1 : Nat), nI (agE (R.Q.G n) n).length = nI f_1 ∧ (∃ (n_2 : Nat), mI S1 1518 t = nI n_2 ∧ (∃ (F_3 : Nat → Nat × Nat) (z_4 : Nat → Nat) (Y_5 : Nat → Nat → Nat) (R_6 : Rb) (kz_7 : Nat → Nat) (p_8 : Nat) (bz_9 : Bool), (MD S1 F_3 t z_4 Y_5 R_6 kz_7 ∧ p_8 < 4 ∧ (Y n 0) = Y_5 p_8 0 ∧ (1 : Int32) = bI bz_9 ∧ (n_2 ≠ 0 → (R_6.C p_8).length < 8192) ∧ n_2 ≤ 8192) ∧ (4 + dC1 R n j) ≤ 4 + nc_i (∃ (n i : Nat) (L : List Nat), n < 4 ∧ p = nI n ∧ inX R n x i ∧ syms R.Q.tp = some (L.map nI) ∧ roP (R.Q.G n) n L.length) (dC1 R p.toNatClampNeg (tNs R)) ∧ (24 + dC2 R n j) ≤ 24 + nc_i (∃ (n i : Nat) (L : List Nat), n < 4 ∧ p = nI n ∧ inX R n x i ∧ syms R.Q.tp = some (L.map nI) ∧ roP (R.Q.G n) n L.length) (dC2 R p.toNatClampNeg (tNs R)) ∧ (∀ (S_10 : MM), (ntQ S1 S_10 F_3 t z_4 Y_5 R_6 kz_7 p_8 bz_9 f_1 n_2 ∧ Keep (fun c => (F_3 c).1 = 101 + p_8) S1 S_10) → (isO S_10 15 t ∧ (([] : List MV) = [] ∧ mret (some .int) (sp_rin02 t p x F z Y R kz) [.inr (.inr (some t)), .inl p, .inl x] S (some (.inl (mI S_10 1518 t))) S_10 (4 + dC1 R n j) (24 + dC2 R n j)))))))))) ∧ (¬ (mI S1 1518 t) ≤ (nI j) → (0 = 0 ∧ (∃ (p_11 : Nat), nI n = nI p_11 ∧ (∃ (F_12 : Nat → Nat × Nat) (z_13 : Nat → Nat) (Y_14 : Nat → Nat → Nat) (R_15 : Rb) (kz_16 : Nat → Nat) (s_17 : Nat) (pr_18 : List Nat), (MD S1 F_12 t z_13 Y_14 R_15 kz_16 ∧ p_11 < 4 ∧ raP (R_15.Q.G p_11) (R_15.Q.T p_11) p_11 s_17 (R_15.Q.G p_11).cn pr_18) ∧ (4 + dC1 R n j) + (ad1 (R_15.Q.G p_11) s_17) ≤ 4 + nc_i (∃ (n i : Nat) (L : List Nat), n < 4 ∧ p = nI n ∧ inX R n x i ∧ syms R.Q.tp = some (L.map nI) ∧ roP (R.Q.G n) n L.length) (dC1 R p.toNatClampNeg (tNs R)) ∧ (24 + dC2 R n j) + (ad2 (R_15.Q.G p_11) s_17) ≤ 24 + nc_i (∃ (n i : Nat) (L : List Nat), n < 4 ∧ p = nI n ∧ inX R n x i ∧ syms R.Q.tp = some (L.map nI) ∧ roP (R.Q.G n) n L.length) (dC2 R p.toNatClampNeg (tNs R)) ∧ (∀ (x_20 : Int32) (S_19 : MM), (x_20 = nI (R_15.Q.G p_11).n) ∧ (ownR S1 S_19 F_12 t z_13 Y_14 (R_15.sG p_11 (pGr (eGr (R_15.Q.G p_11) s_17 p_11) s_17 (R_15.Q.G p_11).cn pr_18) (R_15.Q.T p_11)) kz_16) → (isO S_19 15 t ∧ (pa (mR S_19 1517 t) fun a_21 => ∃ v_22 : Int32, (isO S_19 17 a_21 ∧ inR S_19 a_21 (nI j) ∧ v_22 = eI S_19 a_21 (nI j).toNatClampNeg ∨ a_21 = (mQ S_19).1 ∧ vp_in (nI j) 16 ∧ v_22 = mRem (nI j).toNatClampNeg) ∧ (0 = 0 ∧ (∃ (e_23 : Nat), x_20 = nI e_23 ∧ (∃ (ix_24 : Nat), (nI i) + (nI j) = nI ix_24 ∧ (∃ (c_25 : Nat), v_22 = nI c_25 ∧ (∃ (F_26 : Nat → Nat × Nat) (i_27 : Nat) (y_28 : Nat → Nat) (G_29 : Gr) (T_30 : Tr), ((Y n 0) = y_28 0 ∧ RG S_19 F_26 i_27 y_28 G_29 T_30 ∧ e_23 + 1 = G_29.n ∧ (G_29.ev e_23).ch = none ∧ (G_29.ev e_23).tg = 8192 ∧ e_23 + 1 ∉ T_30.od ∧ T_30.ok ∧ ix_24 ≤ (T_30.od.filter (snW G_29 (G_29.ev e_23).pa)).length ∧ c_25 < 2000000) ∧ (4 + dC1 R n j) + (ad1 (R_15.Q.G p_11) s_17) ≤ 4 + nc_i (∃ (n i : Nat) (L : List Nat), n < 4 ∧ p = nI n ∧ inX R n x i ∧ syms R.Q.tp = some (L.map nI) ∧ roP (R.Q.G n) n L.length) (dC1 R p.toNatClampNeg (tNs R)) ∧ (24 + dC2 R n j) + (ad2 (R_15.Q.G p_11) s_17) ≤ 24 + nc_i (∃ (n i : Nat) (L : List Nat), n < 4 ∧ p = nI n ∧ inX R n x i ∧ syms R.Q.tp = some (L.map nI) ∧ roP (R.Q.G n) n L.length) (dC2 R p.toNatClampNeg (tNs R)) ∧ (∀ (S_31 : MM), (inQ2 S_19 S_31 F_26 i_27 y_28 G_29 T_30 e_23 ix_24 c_25) → (∃ k1, k1 < k ∧ I_rin2 t p x F z Y R kz S k1 [(0, .inr (.inr (some t))), (1, .inl (nI n)), (2, .inl (nI i)), (3, .inr (.inr (some (Y n 0)))), (4, .inl (nI (agE (R.Q.G n) n).length)), (5, .inl ((nI j) + (1 : Int32)))] [] S_31 ((4 + dC1 R n j) + (ad1 (R_15.Q.G p_11) s_17)) ((24 + dC2 R n j) + (ad2 (R_15.Q.G p_11) s_17))))))))))))))))))
      obtain ⟨hM0, hA⟩ := hp
      obtain ⟨hG, hC⟩ := hA n hn
      obtain ⟨h1, hF, hK, h51, hy, hRun, hGT, hOw, hGn, hGc⟩ := hM
      have g0 := (hM0 2 n hn).2.1
      have hnm := g0.nm
      have hol := g0.odl
      have hRun : Run n (owN (R.Q.G n) n) (insO i (L.take j)) (R.Q.G n) (R.Q.T n) G1 T1 := hRun
      have hGn : G1.n = (R.Q.G n).n + j := hGn
      have hGc : G1.cn (owN (R.Q.G n) n) = (R.Q.G n).cn (owN (R.Q.G n) n) + j := hGc
      have hLl : L.length ≤ 8192 := by rcases hro with q | q <;> omega
      have hfl : visN (R.Q.G n) (R.Q.T n) ≤ (R.Q.T n).od.length := List.length_filter_le _ _
      have hiv : i ≤ visN (R.Q.G n) (R.Q.T n) := hX.1
      have cp : p.toNatClampNeg = n := by rw [hpn]; exact nI_clamp (by omega)
      have cy : tNs R = L.length := by
        unfold tNs
        rw [hsy]
        exact List.length_map _
      have e18 : mI S1 1518 t = nI L.length := by rw [hTx.1, List.length_map]
      have eG : ((rtE R).sG n G1 T1).Q.G n = G1 := upF_s
      have eT : ((rtE R).sG n G1 T1).Q.T n = T1 := upF_s
      have budget : ∀ j', j' ≤ L.length → 4 + dC1 R n j' ≤ 4 + nc_i (∃ (n i : Nat) (L : List Nat), n < 4 ∧ p = nI n ∧ inX R n x i ∧ syms R.Q.tp = some (L.map nI) ∧ roP (R.Q.G n) n L.length) (dC1 R p.toNatClampNeg (tNs R)) ∧ 24 + dC2 R n j' ≤ 24 + nc_i (∃ (n i : Nat) (L : List Nat), n < 4 ∧ p = nI n ∧ inX R n x i ∧ syms R.Q.tp = some (L.map nI) ∧ roP (R.Q.G n) n L.length) (dC2 R p.toNatClampNeg (tNs R)) := fun j' hj' => by
        rw [nc_it ⟨n, i, L, hn, hpn, hX, hsy, hro⟩, nc_it ⟨n, i, L, hn, hpn, hX, hsy, hro⟩, cp, cy]
        have := rA_mono ((R.Q.G n).cn (owN (R.Q.G n) n)) hj'
        unfold dC1 dC2
        omega
      rw [e18]
      refine ⟨(h1 0).1, if_le (by omega) (by omega) (fun w => ?_) (fun w => ?_)⟩
      · have hjm : j = L.length := by omega
        subst hjm
        obtain ⟨b1, b2⟩ := budget L.length (Nat.le_refl _)
        refine ⟨(h1 0).1, rfl, _, rfl, L.length, rfl, F1, z, Y1, (rtE R).sG n G1 T1, kz, n, true, ⟨h1, hn, hy.symm, rfl, fun hne => ?_, hLl⟩, b1, b2, fun S10 hQ => ?_⟩
        · have hr := hro.resolve_left hne
          show (R.C n).length < 8192
          omega
        · obtain ⟨⟨q1, q2, q3⟩, q4⟩ := hQ
          rw [eG, eT, sG_sP] at q1
          have q1 : MD S10 F1 t z Y1 (inN R n G1 T1 L.length) kz := q1
          have kt := q4.2.1 t (h1 0).1.1 (fun w => by
            have w : (F1 t).1 = 101 + n := w
            rw [(h1 0).2] at w
            have w : 100 = 101 + n := w
            omega)
          rw [List.take_length] at hRun
          have e19 : mI S10 1518 t = nI L.length := (kt.1 _).trans e18
          rw [e19]
          exact ⟨(q1 0).1, rfl, trivial, ⟨_, rfl, n, i, L, G1, T1, hn, hpn, hX, hsy, hro, hRun, rfl, F1, z, Y1, q1, hF, Keep.trN hK q2 (fun b hb q => by rw [hF b hb] at q; exact q), q3.trans h51⟩, b1, b2⟩
      · have hne : L.length ≠ 0 := by omega
        have hr := hro.resolve_left hne
        have hOw : OwSl G1 n (owN (R.Q.G n) n) := hOw hne
        obtain ⟨H, hH, -, -⟩ := hd_ex hGT.1
        obtain ⟨c1, c2⟩ := dC_s R n j hGc
        obtain ⟨b1, b2⟩ := budget (j + 1) w
        rw [← c1] at b1
        rw [← c2] at b2
        have hGn9 : G1.n = (R.Q.G n).n + j := hGn
        refine ⟨rfl, n, rfl, F1, z, Y1, (rtE R).sG n G1 T1, kz, owN (R.Q.G n) n, H, ⟨h1, hn, ?_⟩, ?_, ?_, fun v S19 hQ => ?_⟩
        · rw [eG, eT]; exact own_pre hGT hOw (by omega) (by omega) hH
        · rw [eG]; omega
        · rw [eG]; omega
        · rw [eG, eT] at hQ
          rw [eG]
          obtain ⟨rfl, F2, Y2, h2, f2, k2, m2, y2, kk2⟩ := hQ
          rw [sG_sG] at h2
          obtain ⟨pa1, pa2, pa3⟩ := own_pa G1 (owN (R.Q.G n) n) n G1.cn H
          have eG2 : ((rtE R).sG n (pGr (eGr G1 (owN (R.Q.G n) n) n) (owN (R.Q.G n) n) G1.cn H) T1).Q.G n = pGr (eGr G1 (owN (R.Q.G n) n) n) (owN (R.Q.G n) n) G1.cn H := upF_s
          have eT2 : ((rtE R).sG n (pGr (eGr G1 (owN (R.Q.G n) n) n) (owN (R.Q.G n) n) G1.cn H) T1).Q.T n = T1 := upF_s
          have g2 := (h2 2 n hn).2.1
          rw [eG2, eT2] at g2
          have hix : i + j ≤ visN G1 T1 := by omega
          have r17 := h1 1 17 (by decide)
          have r15 := h1 1 15 (by decide)
          have r17' := h2 1 17 (by decide)
          have no15 : ∀ {x v}, F1 x = (100, v) → v ≠ 115 → ¬ (x = z 15 ∨ (100 < (F1 x).1 ∧ (F1 x).1 < 110)) := fun {x v} e h9 q => by
            rcases q with q | q
            · rw [q, r15.2.1] at e
              injection e with _ e
              omega
            · rw [e] at q
              have q : 100 < 100 ∧ 100 < 110 := q
              omega
          have kt2 := kk2.2.1 t (h1 0).1.1 (no15 (h1 0).2 (by decide))
          have k17 := kk2.2.1 (z 17) r17.2.2.1.1 (no15 r17.2.1 (by decide))
          have hmem : L.getD j 0 ∈ L := by
            rw [List.getD_eq_getElem?_getD, List.getElem?_eq_getElem w]
            exact List.getElem_mem w
          have hcc := hLc _ hmem
          have ev : eI S19 (z 17) (nI j).toNatClampNeg = nI (L.getD j 0) := by
            rw [nI_clamp (by omega), k17.2.2.2.1, hTx.2.2 j (by rw [List.length_map]; exact w), List.getD_eq_getElem?_getD, List.getElem?_map, List.getElem?_eq_getElem w, List.getD_eq_getElem?_getD, List.getElem?_eq_getElem w]
            rfl
          refine ⟨(h2 0).1, rdI (v := nI (L.getD j 0)) r17'.1 r17'.2.2.1 (inRn (N := 32768) r17'.2.2.2 (by omega) (by decide)) ev ⟨rfl, G1.n, rfl, i + j, nI_add _ _, L.getD j 0, rfl, F2, 101 + n, Y2 n, _, T1, ⟨(hy.symm.trans (y2 n).symm), g2, ?_, pa2, pa3, fun hx => ?_, hGT.2.2.1, ?_, by omega⟩, by omega, by omega, fun S34 hE => ?_⟩⟩
          · show G1.n + 1 = (eGr G1 (owN (R.Q.G n) n) n).n + 1
            rw [(eGr_n G1 _ n).1]
          · obtain ⟨k9, e9, l9, -⟩ := (hGT.2.2.2.1 _).1 hx
            omega
          · rw [pa1, own_len hGT hOw (by omega)]; exact hix
          · obtain ⟨T', U, V, a1, a3, a4, aU, aV, a5⟩ := hE
            rw [pa1] at a1
            have hO := own_ins hGT hOw (by omega) (by omega) hH hix (show L.getD j 0 < 2000000 by omega) a1 aU aV
            obtain ⟨x1, x2, x3, x4⟩ := hO.nx hOw
            have hvd : visN ((pGr (eGr G1 (owN (R.Q.G n) n) n) (owN (R.Q.G n) n) G1.cn H).setI G1.n (i + j) (L.getD j 0)) T' = visN G1 T1 + 1 := by
              obtain ⟨H', hH', hst⟩ := hO
              exact hst.visI (fun e => by cases e) (hOw.gt hGT (by omega)) (fun q hq => ((hH'.1 q).1 hq).1)
            have hFO : FO S34 F2 := fun b hb => (a4.1 b (h2 12 b hb)).1
            have hMD := h2.gr hn a4 a5 a3 (fun _ _ => rfl) (fun _ _ => rfl) hFO (fun s => by rw [eG2, setI_cn]; exact Nat.le_refl _) (fun q hq => by
              rw [eT2, aU] at hq
              rw [aV]
              rcases List.mem_append.1 hq with w | w
              · exact List.mem_append_left _ w
              · exact List.mem_append_right _ (List.mem_cons_of_mem _ w))
            have eY : (fun k => if 116 ≤ k then Y2 n k else Y2 n k) = Y2 n := funext (fun k => by split <;> rfl)
            rw [eY, upY_own, sG_sG] at hMD
            have nog : ∀ {q v}, F2 q = (100, v) → ¬ gO F2 (101 + n) q := fun {q v} e h9 => by
              have := h9.own
              rw [e] at this
              have : 100 = 101 + n := this
              omega
            have kt := a4.2.1 t (h2 0).1.1 (nog (h2 0).2)
            have kz17 := a4.2.1 (z 17) r17'.2.2.1.1 (nog r17'.2.1)
            have hF2 : ∀ b, b ∈ mL S → F2 b = F b := fun b hb => (f2 b (hK.1 b hb).1).trans (hF b hb)
            have kA : Keep (fun c => 100 ≤ (F c).1) S S19 := Keep.trN hK k2 (fun b hb q => by rw [hF b hb] at q; exact q)
            have etk : L.take (j + 1) = L.take j ++ [L.getD j 0] := by
              rw [List.take_succ, List.getD_eq_getElem?_getD, List.getElem?_eq_getElem w]; rfl
            refine ⟨k - 1, by omega, n, i, L, j + 1, F2, Y2, _, T', by omega, hn, hpn, hX, hsy, hLc, hro, ⟨hMD, hF2, Keep.trN kA a4 (fun b hb q => by have := q.own; rw [hF2 b hb] at this; omega), (kt.1 1551).trans (m2.trans h51), (y2 n).trans hy, ?_, x4, fun _ => x3, x1.trans (by rw [hGn]; rfl), x2.trans (by rw [hGc]; rfl)⟩, ⟨?_, hTx.2.1, fun q hq => ?_⟩, by omega, by rw [nI_1], rfl, by omega, by omega⟩
            · rw [etk, insO_snoc, List.length_take, Nat.min_eq_left (Nat.le_of_lt w)]
              exact hRun.snoc hO
            · rw [kt.1, kt2.1]; exact hTx.1
            · rw [kz17.2.2.2.1, k17.2.2.2.1]; exact hTx.2.2 q hq
theorem u_rin02 (l : Launch) (hlt : l.stackTraces = false) : UsX l yX14_insert0 (Cond.code yX14_insert0 cX14_insert0 6 (some .int)) (some .int) 8 130 15 T_rin02 := by
  intro Rc Rs av S cs sl K Kx h
  unfold T_rin02 at h
  split at h
  · rename_i t_o p x
    obtain ⟨t, rfl, h_1⟩ := pa_of h
    obtain ⟨F, z, Y, R, kz, hp, hc, hs, hk, hx0, hx1, hx2⟩ := h_1
    refine ⟨(sp_rin02 t p x F z Y R kz), c_rin02 l hlt t p x F z Y R kz, fun _ _ h9 => ⟨_, _, h9.1, (h9.2.1 0).1⟩, ⟨rfl, hp⟩, hc, hs, fun v9 S' h8 => by
      obtain ⟨v8, h7, h8⟩ := h8
      cases h7
      exact hk _ _ h8, fun _ _ q => by
      rcases q with ⟨rfl, q⟩ | ⟨rfl, q⟩ | ⟨rfl, q⟩
      · obtain ⟨q, rfl⟩ := q
        exact hx0 q
      · exact hx1 _ q
      · exact hx2 _ q⟩
  · exact h.elim
def T_rin12 : TR := fun Rc Rs av S cs sl K _Kx => match av with
  | [.inr (.inr t_o), .inl p, .inl x] => pa t_o fun t => (∃ (F : Nat → Nat × Nat) (z : Nat → Nat) (Y : Nat → Nat → Nat) (R : Rb) (kz : Nat → Nat), (MD S F t z Y R kz ∧ AbC R) ∧ cs + (4 + nc_i (∃ (n i : Nat) (L : List Nat), n < 4 ∧ p = nI n ∧ inX R n x i ∧ syms R.Q.tp = some (L.map nI) ∧ roP (R.Q.G n) n L.length) (dC1 R p.toNatClampNeg (tNs R))) ≤ Rc ∧ sl + (24 + nc_i (∃ (n i : Nat) (L : List Nat), n < 4 ∧ p = nI n ∧ inX R n x i ∧ syms R.Q.tp = some (L.map nI) ∧ roP (R.Q.G n) n L.length) (dC2 R p.toNatClampNeg (tNs R))) ≤ Rs ∧ (∀ (v : Int32) (S' : MM), ((rinW S S' F t R kz p x v) ∨ ((np 4 p ∨ ∃ n, n < 4 ∧ p = nI n ∧ np (visN (R.Q.G n) (R.Q.T n) + 1) x) ∧ v = 0 ∧ mdW S S' F t R kz 1) ∨ ((∃ n i, n < 4 ∧ p = nI n ∧ inX R n x i) ∧ syms R.Q.tp = none ∧ mdW S S' F t (rtE R) kz 2 ∧ v = 0) ∨ ((∃ (n i : Nat) (L : List Nat), n < 4 ∧ p = nI n ∧ inX R n x i ∧ syms R.Q.tp = some (L.map nI) ∧ ¬ roP (R.Q.G n) n L.length) ∧ mdW S S' F t (rtE R) kz 3 ∧ v = 0)) → K (some (.inl v)) S' (cs + (4 + nc_i (∃ (n i : Nat) (L : List Nat), n < 4 ∧ p = nI n ∧ inX R n x i ∧ syms R.Q.tp = some (L.map nI) ∧ roP (R.Q.G n) n L.length) (dC1 R p.toNatClampNeg (tNs R)))) (sl + (24 + nc_i (∃ (n i : Nat) (L : List Nat), n < 4 ∧ p = nI n ∧ inX R n x i ∧ syms R.Q.tp = some (L.map nI) ∧ roP (R.Q.G n) n L.length) (dC2 R p.toNatClampNeg (tNs R))))))
  | _ => False
noncomputable def sp_rin12 (t : Nat) (p : Int32) (x : Int32) (F : Nat → Nat × Nat) (z : Nat → Nat) (Y : Nat → Nat → Nat) (R : Rb) (kz : Nat → Nat) : Sp := (fun av S => av = [.inr (.inr (some t)), .inl p, .inl x] ∧ (MD S F t z Y R kz ∧ AbC R), fun _ S => 4 + nc_i (∃ (n i : Nat) (L : List Nat), n < 4 ∧ p = nI n ∧ inX R n x i ∧ syms R.Q.tp = some (L.map nI) ∧ roP (R.Q.G n) n L.length) (dC1 R p.toNatClampNeg (tNs R)), fun _ S => 24 + nc_i (∃ (n i : Nat) (L : List Nat), n < 4 ∧ p = nI n ∧ inX R n x i ∧ syms R.Q.tp = some (L.map nI) ∧ roP (R.Q.G n) n L.length) (dC2 R p.toNatClampNeg (tNs R)), fun _ S rv S' => ∃ v, rv = (some (.inl v)) ∧ ((rinW S S' F t R kz p x v) ∨ ((np 4 p ∨ ∃ n, n < 4 ∧ p = nI n ∧ np (visN (R.Q.G n) (R.Q.T n) + 1) x) ∧ v = 0 ∧ mdW S S' F t R kz 1) ∨ ((∃ n i, n < 4 ∧ p = nI n ∧ inX R n x i) ∧ syms R.Q.tp = none ∧ mdW S S' F t (rtE R) kz 2 ∧ v = 0) ∨ ((∃ (n i : Nat) (L : List Nat), n < 4 ∧ p = nI n ∧ inX R n x i ∧ syms R.Q.tp = some (L.map nI) ∧ ¬ roP (R.Q.G n) n L.length) ∧ mdW S S' F t (rtE R) kz 3 ∧ v = 0)), fun _ _ _ _ => False)
set_option maxRecDepth 100000 in
set_option maxHeartbeats 2000000 in
theorem c_rin12 (l : Launch) (hlt : l.stackTraces = false) : ∀ (t : Nat) (p : Int32) (x : Int32) (F : Nat → Nat × Nat) (z : Nat → Nat) (Y : Nat → Nat → Nat) (R : Rb) (kz : Nat → Nat), CtX l yX14_insert (Cond.codeWith yX14_insert cX14_insert 4 (some .int) [(5, 11, 12, 138), (5, 11, 21, 170), (5, 11, 30, 156)]) (some .int) 9 155 (sp_rin12 t p x F z Y R kz) := by
  intro t p x F z Y R kz
  refine CtX.ofH hlt (fX14, nX14, aX14, iX14, lX14, [(522, 0, 3, 1, T_rin02)], qX14, gX14, []) false tX14_insert [((5, 11, 12, 138), 1), ((5, 11, 21, 170), 3), ((5, 11, 30, 156), 0)] (fun _ _ _ => none) (by decide) (by decide) kX14_insert ⟨_, _, rfl⟩ fX14_ok nX14_ok aX14_ok iX14_ok lX14_ok (fun p e R s m args below meth c Q D cy z r A C hR1 hR2 => List.forall_mem_cons.mpr ⟨cOK_use (fun _ _ _ _ _ _ _ _ h => let ⟨sp, h1, h2, h3⟩ := u_rin02 l hlt _ _ _ _ _ _ _ _ h; ⟨sp, cOKx_V C h1 vX14_insert_522 ⟨by decide, by decide, by decide +kernel⟩ ⟨by rw [hR1]; decide, by rw [hR2]; decide⟩ (k := 15) (T := TX14) (N := 52) rfl (by decide) h2, h3⟩), fun _ h => absurd h List.not_mem_nil⟩) qX14_ok gX14_ok rfl (List.forall_mem_cons.mpr ⟨⟨by decide, mgd 1925 (by decide +kernel) (by decide +kernel)⟩, List.forall_mem_cons.mpr ⟨⟨by decide, mgd 1941 (by decide +kernel) (by decide +kernel)⟩, List.forall_mem_cons.mpr ⟨⟨by decide, mgd 1915 (by decide +kernel) (by decide +kernel)⟩, fun _ h => absurd h List.not_mem_nil⟩⟩⟩) (fun _ _ _ _ z => z) ?_ ?_
  · rintro _ S ⟨rfl, hp⟩
    refine ⟨Nat.le_of_ble_eq_true rfl, 300, ?_⟩
    show (True ∧ (isO S 15 t ∧ (0 = 0 ∧ (∃ (F_1 : Nat → Nat × Nat) (z_2 : Nat → Nat) (Y_3 : Nat → Nat → Nat) (R_4 : Rb) (kz_5 : Nat → Nat), (MD (sI S 1551 t (0 : Int32)) F_1 t z_2 Y_3 R_4 kz_5 ∧ AbC R_4) ∧ 0 + (4 + nc_i (∃ (n i : Nat) (L : List Nat), n < 4 ∧ p = nI n ∧ inX R_4 n x i ∧ syms R_4.Q.tp = some (L.map nI) ∧ roP (R_4.Q.G n) n L.length) (dC1 R_4 p.toNatClampNeg (tNs R_4))) ≤ 4 + nc_i (∃ (n i : Nat) (L : List Nat), n < 4 ∧ p = nI n ∧ inX R n x i ∧ syms R.Q.tp = some (L.map nI) ∧ roP (R.Q.G n) n L.length) (dC1 R p.toNatClampNeg (tNs R)) ∧ 0 + (24 + nc_i (∃ (n i : Nat) (L : List Nat), n < 4 ∧ p = nI n ∧ inX R_4 n x i ∧ syms R_4.Q.tp = some (L.map nI) ∧ roP (R_4.Q.G n) n L.length) (dC2 R_4 p.toNatClampNeg (tNs R_4))) ≤ 24 + nc_i (∃ (n i : Nat) (L : List Nat), n < 4 ∧ p = nI n ∧ inX R n x i ∧ syms R.Q.tp = some (L.map nI) ∧ roP (R.Q.G n) n L.length) (dC2 R p.toNatClampNeg (tNs R)) ∧ ((∀ (x_7 : Int32) (S_6 : MM), (rinQ (sI S 1551 t (0 : Int32)) S_6 F_1 t R_4 kz_5 p x x_7) → (([] : List MV) = [] ∧ mret (some .int) (sp_rin12 t p x F z Y R kz) [.inr (.inr (some t)), .inl p, .inl x] S (some (.inl x_7)) S_6 (0 + (4 + nc_i (∃ (n i : Nat) (L : List Nat), n < 4 ∧ p = nI n ∧ inX R_4 n x i ∧ syms R_4.Q.tp = some (L.map nI) ∧ roP (R_4.Q.G n) n L.length) (dC1 R_4 p.toNatClampNeg (tNs R_4)))) (0 + (24 + nc_i (∃ (n i : Nat) (L : List Nat), n < 4 ∧ p = nI n ∧ inX R_4 n x i ∧ syms R_4.Q.tp = some (L.map nI) ∧ roP (R_4.Q.G n) n L.length) (dC2 R_4 p.toNatClampNeg (tNs R_4)))))) ∧ ((np 4 p ∨ ∃ n, n < 4 ∧ p = nI n ∧ np (visN (R_4.Q.G n) (R_4.Q.T n) + 1) x) → (∀ e_9, (True ∧ (isO (sI S 1551 t (0 : Int32)) 15 t ∧ (([] : List MV) = [] ∧ mret (some .int) (sp_rin12 t p x F z Y R kz) [.inr (.inr (some t)), .inl p, .inl x] S (some (.inl (0 : Int32))) (sI (sI S 1551 t (0 : Int32)) 1551 t (1 : Int32)) (0 + (4 + nc_i (∃ (n i : Nat) (L : List Nat), n < 4 ∧ p = nI n ∧ inX R_4 n x i ∧ syms R_4.Q.tp = some (L.map nI) ∧ roP (R_4.Q.G n) n L.length) (dC1 R_4 p.toNatClampNeg (tNs R_4)))) (0 + (24 + nc_i (∃ (n i : Nat) (L : List Nat), n < 4 ∧ p = nI n ∧ inX R_4 n x i ∧ syms R_4.Q.tp = some (L.map nI) ∧ roP (R_4.Q.G n) n L.length) (dC2 R_4 p.toNatClampNeg (tNs R_4))))))))) ∧ (∀ (S_10 : MM), ((∃ n i, n < 4 ∧ p = nI n ∧ inX R_4 n x i) ∧ syms R_4.Q.tp = none ∧ mdQ (sI S 1551 t (0 : Int32)) S_10 F_1 t (rtE R_4) kz_5) → (∀ e_11, (True ∧ (isO S_10 15 t ∧ (([] : List MV) = [] ∧ mret (some .int) (sp_rin12 t p x F z Y R kz) [.inr (.inr (some t)), .inl p, .inl x] S (some (.inl (0 : Int32))) (sI S_10 1551 t (2 : Int32)) (0 + (4 + nc_i (∃ (n i : Nat) (L : List Nat), n < 4 ∧ p = nI n ∧ inX R_4 n x i ∧ syms R_4.Q.tp = some (L.map nI) ∧ roP (R_4.Q.G n) n L.length) (dC1 R_4 p.toNatClampNeg (tNs R_4)))) (0 + (24 + nc_i (∃ (n i : Nat) (L : List Nat), n < 4 ∧ p = nI n ∧ inX R_4 n x i ∧ syms R_4.Q.tp = some (L.map nI) ∧ roP (R_4.Q.G n) n L.length) (dC2 R_4 p.toNatClampNeg (tNs R_4))))))))) ∧ (∀ (S_12 : MM), ((∃ (n i : Nat) (L : List Nat), n < 4 ∧ p = nI n ∧ inX R_4 n x i ∧ syms R_4.Q.tp = some (L.map nI) ∧ ¬ roP (R_4.Q.G n) n L.length) ∧ mdQ (sI S 1551 t (0 : Int32)) S_12 F_1 t (rtE R_4) kz_5) → (∀ e_13, (True ∧ (isO S_12 15 t ∧ (([] : List MV) = [] ∧ mret (some .int) (sp_rin12 t p x F z Y R kz) [.inr (.inr (some t)), .inl p, .inl x] S (some (.inl (0 : Int32))) (sI S_12 1551 t (3 : Int32)) (0 + (4 + nc_i (∃ (n i : Nat) (L : List Nat), n < 4 ∧ p = nI n ∧ inX R_4 n x i ∧ syms R_4.Q.tp = some (L.map nI) ∧ roP (R_4.Q.G n) n L.length) (dC1 R_4 p.toNatClampNeg (tNs R_4)))) (0 + (24 + nc_i (∃ (n i : Nat) (L : List Nat), n < 4 ∧ p = nI n ∧ inX R_4 n x i ∧ syms R_4.Q.tp = some (L.map nI) ∧ roP (R_4.Q.G n) n L.length) (dC2 R_4 p.toNatClampNeg (tNs R_4))))))))))))))
    obtain ⟨hp, hA⟩ := hp
    refine ⟨trivial, (hp 0).1, rfl, F, z, Y, R, kz, ⟨hp.th 0, hA⟩, Nat.le_of_eq (Nat.zero_add _), Nat.le_of_eq (Nat.zero_add _), fun v S3 h => ?_, fun h e => ⟨trivial, (hp 0).1, rfl, trivial, ⟨_, rfl, Or.inr (Or.inl ⟨h, rfl, (hp.ex0 1 rfl).w hp⟩)⟩, Nat.le_of_eq (Nat.zero_add _), Nat.le_of_eq (Nat.zero_add _)⟩, fun S9 h e => ?_, fun S9 h e => ?_⟩
    · have g0 := h
      exact ⟨rfl, trivial, ⟨_, rfl, Or.inl (rinQ.ok g0 hp)⟩, Nat.le_of_eq (Nat.zero_add _), Nat.le_of_eq (Nat.zero_add _)⟩
    · obtain ⟨g0, g1, g2⟩ := h
      obtain ⟨F9, z9, Y9, M9, -⟩ := id g2
      exact ⟨trivial, (M9 0).1, rfl, trivial, ⟨_, rfl, Or.inr (Or.inr (Or.inl ⟨g0, g1, g2.ex hp 2 rfl, rfl⟩))⟩, Nat.le_of_eq (Nat.zero_add _), Nat.le_of_eq (Nat.zero_add _)⟩
    · obtain ⟨g0, g1⟩ := h
      obtain ⟨F9, z9, Y9, M9, -⟩ := id g1
      exact ⟨trivial, (M9 0).1, rfl, trivial, ⟨_, rfl, Or.inr (Or.inr (Or.inr (⟨g0, g1.ex hp 3 rfl, rfl⟩)))⟩, Nat.le_of_eq (Nat.zero_add _), Nat.le_of_eq (Nat.zero_add _)⟩
  · exact fun _ _ _ _ _ h => by cases h
theorem u_rin12 (l : Launch) (hlt : l.stackTraces = false) : UsX l yX14_insert (Cond.codeWith yX14_insert cX14_insert 4 (some .int) [(5, 11, 12, 138), (5, 11, 21, 170), (5, 11, 30, 156)]) (some .int) 9 155 15 T_rin12 := by
  intro Rc Rs av S cs sl K Kx h
  unfold T_rin12 at h
  split at h
  · rename_i t_o p x
    obtain ⟨t, rfl, h_1⟩ := pa_of h
    obtain ⟨F, z, Y, R, kz, hp, hc, hs, hk⟩ := h_1
    refine ⟨(sp_rin12 t p x F z Y R kz), c_rin12 l hlt t p x F z Y R kz, fun _ _ h9 => ⟨_, _, h9.1, (h9.2.1 0).1⟩, ⟨rfl, hp⟩, hc, hs, fun v9 S' h8 => by
      obtain ⟨v8, h7, h8⟩ := h8
      cases h7
      exact hk _ _ h8, fun _ _ q => q.elim⟩
  · exact h.elim
def T_rac02 : TR := fun Rc Rs av S cs sl K Kx => match av with
  | [.inr (.inr t_o), .inl p, .inl s] => pa t_o fun t => (∃ (F : Nat → Nat × Nat) (z : Nat → Nat) (Y : Nat → Nat → Nat) (R : Rb) (kz : Nat → Nat), (MD S F t z Y R kz) ∧ cs + (2 + nc_i (∃ n i, n < 4 ∧ p = nI n ∧ i < 8 ∧ s = nI i) (kpC R s.toNatClampNeg)) ≤ Rc ∧ sl + (12 + nc_i (∃ n i, n < 4 ∧ p = nI n ∧ i < 8 ∧ s = nI i) (kpZ R s.toNatClampNeg)) ≤ Rs ∧ ((∀ (v : Int32) (S' : MM), (∃ n i, n < 4 ∧ p = nI n ∧ i < 8 ∧ s = nI i ∧ v = nI (rsmW R n).length ∧ mdQ S S' F t (kpR R i (rsmW R n)) kz) → K (some (.inl v)) S' (cs + (2 + nc_i (∃ n i, n < 4 ∧ p = nI n ∧ i < 8 ∧ s = nI i) (kpC R s.toNatClampNeg))) (sl + (12 + nc_i (∃ n i, n < 4 ∧ p = nI n ∧ i < 8 ∧ s = nI i) (kpZ R s.toNatClampNeg)))) ∧ ((np 4 p ∨ np 8 s) → Kx 1 S (cs + (2 + nc_i (∃ n i, n < 4 ∧ p = nI n ∧ i < 8 ∧ s = nI i) (kpC R s.toNatClampNeg))) (sl + (12 + nc_i (∃ n i, n < 4 ∧ p = nI n ∧ i < 8 ∧ s = nI i) (kpZ R s.toNatClampNeg))))))
  | _ => False
noncomputable def sp_rac02 (t : Nat) (p : Int32) (s : Int32) (F : Nat → Nat × Nat) (z : Nat → Nat) (Y : Nat → Nat → Nat) (R : Rb) (kz : Nat → Nat) : Sp := (fun av S => av = [.inr (.inr (some t)), .inl p, .inl s] ∧ (MD S F t z Y R kz), fun _ S => 2 + nc_i (∃ n i, n < 4 ∧ p = nI n ∧ i < 8 ∧ s = nI i) (kpC R s.toNatClampNeg), fun _ S => 12 + nc_i (∃ n i, n < 4 ∧ p = nI n ∧ i < 8 ∧ s = nI i) (kpZ R s.toNatClampNeg), fun _ S rv S' => ∃ v, rv = (some (.inl v)) ∧ (∃ n i, n < 4 ∧ p = nI n ∧ i < 8 ∧ s = nI i ∧ v = nI (rsmW R n).length ∧ mdQ S S' F t (kpR R i (rsmW R n)) kz), fun _ S E S' => (E = 1 ∧ (np 4 p ∨ np 8 s) ∧ S' = S))
set_option maxRecDepth 100000 in
set_option maxHeartbeats 2000000 in
theorem c_rac02 (l : Launch) (hlt : l.stackTraces = false) : ∀ (t : Nat) (p : Int32) (s : Int32) (F : Nat → Nat × Nat) (z : Nat → Nat) (Y : Nat → Nat → Nat) (R : Rb) (kz : Nat → Nat), CtX l yX14_announce0 (Cond.code yX14_announce0 cX14_announce0 3 (some .int)) (some .int) 8 130 (sp_rac02 t p s F z Y R kz) := by
  intro t p s F z Y R kz
  refine CtX.of hlt (fX14, nX14, aX14, iX14, lX14, [(203, 0, 2, 3, T_rgr), (144, 2, 3, 1, T_rin), (148, 2, 1, 0, T_rck), (384, 0, 2, 0, T_rwsm), (387, 0, 2, 1, T_rkp)], qX14, gX14, []) false tX14_announce0 (fun _ _ _ => none) (by decide) (by decide) kX14_announce0 ⟨_, _, rfl⟩ fX14_ok nX14_ok aX14_ok iX14_ok lX14_ok (fun p e R s m args below meth c Q D cy z r A C hR1 hR2 => List.forall_mem_cons.mpr ⟨cOK_use (fun _ _ _ _ _ _ _ _ h => let ⟨sp, h1, h2, h3⟩ := u_rgr l hlt _ _ _ _ _ _ _ _ h; ⟨sp, cOKx_V C h1 vX14_announce0_203 ⟨by decide, by decide, by decide +kernel⟩ ⟨by rw [hR1]; decide, by rw [hR2]; decide⟩ (k := 15) (T := TX14) (N := 52) rfl (by decide) h2, h3⟩), List.forall_mem_cons.mpr ⟨cOK_use (fun _ _ _ _ _ _ _ _ h => let ⟨sp, h1, _, h3⟩ := u_rin l _ _ _ _ _ _ _ _ h; ⟨sp, cOK_S C h1 vX14_announce0_144 ⟨by decide, by decide, by decide +kernel⟩ ⟨by rw [hR1]; decide, by rw [hR2]; decide⟩, h3⟩), List.forall_mem_cons.mpr ⟨cOK_use (fun _ _ _ _ _ _ _ _ h => let ⟨sp, h1, _, h3⟩ := u_rck l hlt _ _ _ _ _ _ _ _ h; ⟨sp, cOKx_S C h1 vX14_announce0_148 ⟨by decide, by decide, by decide +kernel⟩ ⟨by rw [hR1]; decide, by rw [hR2]; decide⟩, h3⟩), List.forall_mem_cons.mpr ⟨cOK_use (fun _ _ _ _ _ _ _ _ h => let ⟨sp, h1, h2, h3⟩ := u_rwsm l _ _ _ _ _ _ _ _ h; ⟨sp, cOK_V C h1 vX14_announce0_384 ⟨by decide, by decide, by decide +kernel⟩ ⟨by rw [hR1]; decide, by rw [hR2]; decide⟩ (k := 15) (T := TX14) (N := 52) rfl (by decide) h2, h3⟩), List.forall_mem_cons.mpr ⟨cOK_use (fun _ _ _ _ _ _ _ _ h => let ⟨sp, h1, h2, h3⟩ := u_rkp l _ _ _ _ _ _ _ _ h; ⟨sp, cOK_V C h1 vX14_announce0_387 ⟨by decide, by decide, by decide +kernel⟩ ⟨by rw [hR1]; decide, by rw [hR2]; decide⟩ (k := 15) (T := TX14) (N := 52) rfl (by decide) h2, h3⟩), fun _ h => absurd h List.not_mem_nil⟩⟩⟩⟩⟩) qX14_ok gX14_ok (fun _ h => absurd h List.not_mem_nil) ?_ ?_
  · rintro _ S ⟨rfl, hp⟩
    refine ⟨Nat.le_of_ble_eq_true rfl, 300, ?_⟩
    show (0 = 0 ∧ (∃ (F_1 : Nat → Nat × Nat) (z_2 : Nat → Nat) (Y_3 : Nat → Nat → Nat) (R_4 : Rb) (kz_5 : Nat → Nat), (MD S F_1 t z_2 Y_3 R_4 kz_5) ∧ 0 + 1 ≤ 2 + nc_i (∃ n i, n < 4 ∧ p = nI n ∧ i < 8 ∧ s = nI i) (kpC R s.toNatClampNeg) ∧ 0 + 6 ≤ 12 + nc_i (∃ n i, n < 4 ∧ p = nI n ∧ i < 8 ∧ s = nI i) (kpZ R s.toNatClampNeg) ∧ ((∀ (x_7 : Option Nat) (S_6 : MM), (S_6 = S ∧ ∃ n, n < 4 ∧ p = nI n ∧ x_7 = some (Y_3 n 0)) → (2 = 2 ∧ (True ∧ 0 + 1 ≤ 2 + nc_i (∃ n i, n < 4 ∧ p = nI n ∧ i < 8 ∧ s = nI i) (kpC R s.toNatClampNeg) ∧ 0 + 6 ≤ 12 + nc_i (∃ n i, n < 4 ∧ p = nI n ∧ i < 8 ∧ s = nI i) (kpZ R s.toNatClampNeg) ∧ ((2 = 2 ∧ (((tf ((0 : Int32) ≤ s ∧ s ≤ (7 : Int32))) = 0 ∨ (tf ((0 : Int32) ≤ s ∧ s ≤ (7 : Int32))) = 1) ∧ 0 + 1 + 1 ≤ 2 + nc_i (∃ n i, n < 4 ∧ p = nI n ∧ i < 8 ∧ s = nI i) (kpC R s.toNatClampNeg) ∧ 0 + 6 + 6 ≤ 12 + nc_i (∃ n i, n < 4 ∧ p = nI n ∧ i < 8 ∧ s = nI i) (kpZ R s.toNatClampNeg) ∧ ((∀ (S_9 : MM), (S_9 = S_6 ∧ (tf ((0 : Int32) ≤ s ∧ s ≤ (7 : Int32))) = 1) → (0 = 0 ∧ (∃ (p_10 : Nat), p = nI p_10 ∧ (∃ (F_11 : Nat → Nat × Nat) (z_12 : Nat → Nat) (Y_13 : Nat → Nat → Nat) (R_14 : Rb) (kz_15 : Nat → Nat), (MD S_9 F_11 t z_12 Y_13 R_14 kz_15 ∧ p_10 < 4) ∧ 0 + 1 + 1 ≤ 2 + nc_i (∃ n i, n < 4 ∧ p = nI n ∧ i < 8 ∧ s = nI i) (kpC R s.toNatClampNeg) ∧ 0 + 6 + 6 ≤ 12 + nc_i (∃ n i, n < 4 ∧ p = nI n ∧ i < 8 ∧ s = nI i) (kpZ R s.toNatClampNeg) ∧ (∀ (S_16 : MM), (ouQ S_9 S_16 F_11 t z_12 Y_13 R_14 kz_15 21 (rsmB (R_14.Q.G p_10) p_10 256 ++ (List.range 4).map (clB (crB (rsmB (R_14.Q.G p_10) p_10 256) (rsmB (R_14.Q.G p_10) p_10 256).length ^^^ -1)))) → (0 = 0 ∧ (∃ (i_17 : Nat), s = nI i_17 ∧ (∃ (F_18 : Nat → Nat × Nat) (z_19 : Nat → Nat) (Y_20 : Nat → Nat → Nat) (R_21 : Rb) (kz_22 : Nat → Nat) (B_23 : List Nat), (MD S_16 F_18 t z_19 Y_20 R_21 kz_22 ∧ i_17 < 8 ∧ Ou S_16 (z_19 21) (z_19 (70 + 21)) B_23 ∧ B_23 ≠ [] ∧ B_23.length ≤ 32768) ∧ 0 + 1 + 1 + (kpC R_21 i_17) ≤ 2 + nc_i (∃ n i, n < 4 ∧ p = nI n ∧ i < 8 ∧ s = nI i) (kpC R s.toNatClampNeg) ∧ 0 + 6 + 6 + (kpZ R_21 i_17) ≤ 12 + nc_i (∃ n i, n < 4 ∧ p = nI n ∧ i < 8 ∧ s = nI i) (kpZ R s.toNatClampNeg) ∧ (∀ (S_24 : MM), (mdQ S_16 S_24 F_18 t (kpR R_21 i_17 B_23) kz_22) → (([] : List MV) = [] ∧ mret (some .int) (sp_rac02 t p s F z Y R kz) [.inr (.inr (some t)), .inl p, .inl s] S (some (.inl (nI B_23.length))) S_24 (0 + 1 + 1 + (kpC R_21 i_17)) (0 + 6 + 6 + (kpZ R_21 i_17)))))))))))) ∧ (((tf ((0 : Int32) ≤ s ∧ s ≤ (7 : Int32))) = 0) → mthr (sp_rac02 t p s F z Y R kz) [.inr (.inr (some t)), .inl p, .inl s] S 1 S_6 (0 + 1 + 1) (0 + 6 + 6))))))))) ∧ ((np 4 p) → mthr (sp_rac02 t p s F z Y R kz) [.inr (.inr (some t)), .inl p, .inl s] S 1 S (0 + 1) (0 + 6)))))
    have fail : ∀ {a b : Nat}, (np 4 p ∨ np 8 s) → a ≤ 2 → b ≤ 12 → mthr (sp_rac02 t p s F z Y R kz) [.inr (.inr (some t)), .inl p, .inl s] S 1 S a b := fun h ha hb => ⟨⟨rfl, h, rfl⟩, Nat.le_trans ha (Nat.le_add_right _ _), Nat.le_trans hb (Nat.le_add_right _ _)⟩
    refine ⟨rfl, F, z, Y, R, kz, hp, by omega, by omega, fun v S6 h => ?_, fun h => fail (Or.inl h) (by decide) (by decide)⟩
    obtain ⟨rfl, n, hn, rfl, rfl⟩ := h
    refine ⟨rfl, trivial, by omega, by omega, rfl, tf_b _, by omega, by omega, fun S9 h => ?_, fun h => fail (Or.inr (in_0k (k := 7) (by decide) h)) (by decide) (by decide)⟩
    obtain ⟨rfl, h⟩ := h
    obtain ⟨i, hi, rfl⟩ := in_1k (k := 7) (by decide) h
    have ci : (nI i).toNatClampNeg = i := nI_clamp (by omega)
    refine ⟨rfl, n, rfl, F, z, Y, R, kz, ⟨hp, hn⟩, by omega, by omega, fun S16 hQ => ?_⟩
    obtain ⟨q1, q2, q3⟩ := hQ
    obtain ⟨w1, w2⟩ := rsmW_ok R n
    obtain ⟨-, f16, k16⟩ := hp.out (k0 := 21) (Or.inl rfl) q3 q2
    rw [ci]
    exact ⟨rfl, i, rfl, F, z, Y, R, kz, _, ⟨q1, hi, q2, w1, w2⟩, Nat.le_of_eq (by rw [nc_it ⟨n, i, hn, rfl, hi, rfl⟩]), Nat.le_of_eq (by rw [nc_it ⟨n, i, hn, rfl, hi, rfl⟩]), fun S20 hQ => ⟨rfl, trivial, ⟨_, rfl, n, i, hn, rfl, hi, rfl, rfl, mdQ.tr0 k16 f16 hQ⟩, by show _ ≤ 2 + nc_i _ (kpC R (nI i).toNatClampNeg); rw [nc_it ⟨n, i, hn, rfl, hi, rfl⟩, ci]; exact Nat.le_refl _, by show _ ≤ 12 + nc_i _ (kpZ R (nI i).toNatClampNeg); rw [nc_it ⟨n, i, hn, rfl, hi, rfl⟩, ci]; exact Nat.le_refl _⟩⟩
  · exact fun _ _ _ _ _ h => by cases h
theorem u_rac02 (l : Launch) (hlt : l.stackTraces = false) : UsX l yX14_announce0 (Cond.code yX14_announce0 cX14_announce0 3 (some .int)) (some .int) 8 130 15 T_rac02 := by
  intro Rc Rs av S cs sl K Kx h
  unfold T_rac02 at h
  split at h
  · rename_i t_o p s
    obtain ⟨t, rfl, h_1⟩ := pa_of h
    obtain ⟨F, z, Y, R, kz, hp, hc, hs, hk, hx0⟩ := h_1
    refine ⟨(sp_rac02 t p s F z Y R kz), c_rac02 l hlt t p s F z Y R kz, fun _ _ h9 => ⟨_, _, h9.1, (h9.2 0).1⟩, ⟨rfl, hp⟩, hc, hs, fun v9 S' h8 => by
      obtain ⟨v8, h7, h8⟩ := h8
      cases h7
      exact hk _ _ h8, fun _ _ q => by
      rcases q with ⟨rfl, q⟩
      · obtain ⟨q, rfl⟩ := q
        exact hx0 q⟩
  · exact h.elim
def T_rac12 : TR := fun Rc Rs av S cs sl K _Kx => match av with
  | [.inr (.inr t_o), .inl p, .inl s] => pa t_o fun t => (∃ (F : Nat → Nat × Nat) (z : Nat → Nat) (Y : Nat → Nat → Nat) (R : Rb) (kz : Nat → Nat), (MD S F t z Y R kz) ∧ cs + (2 + nc_i (∃ n i, n < 4 ∧ p = nI n ∧ i < 8 ∧ s = nI i) (kpC R s.toNatClampNeg)) ≤ Rc ∧ sl + (12 + nc_i (∃ n i, n < 4 ∧ p = nI n ∧ i < 8 ∧ s = nI i) (kpZ R s.toNatClampNeg)) ≤ Rs ∧ (∀ (v : Int32) (S' : MM), ((∃ n i, n < 4 ∧ p = nI n ∧ i < 8 ∧ s = nI i ∧ v = nI (rsmW R n).length ∧ mdW S S' F t (kpR R i (rsmW R n)) kz 0) ∨ ((np 4 p ∨ np 8 s) ∧ v = 0 ∧ mdW S S' F t R kz 1)) → K (some (.inl v)) S' (cs + (2 + nc_i (∃ n i, n < 4 ∧ p = nI n ∧ i < 8 ∧ s = nI i) (kpC R s.toNatClampNeg))) (sl + (12 + nc_i (∃ n i, n < 4 ∧ p = nI n ∧ i < 8 ∧ s = nI i) (kpZ R s.toNatClampNeg)))))
  | _ => False
noncomputable def sp_rac12 (t : Nat) (p : Int32) (s : Int32) (F : Nat → Nat × Nat) (z : Nat → Nat) (Y : Nat → Nat → Nat) (R : Rb) (kz : Nat → Nat) : Sp := (fun av S => av = [.inr (.inr (some t)), .inl p, .inl s] ∧ (MD S F t z Y R kz), fun _ S => 2 + nc_i (∃ n i, n < 4 ∧ p = nI n ∧ i < 8 ∧ s = nI i) (kpC R s.toNatClampNeg), fun _ S => 12 + nc_i (∃ n i, n < 4 ∧ p = nI n ∧ i < 8 ∧ s = nI i) (kpZ R s.toNatClampNeg), fun _ S rv S' => ∃ v, rv = (some (.inl v)) ∧ ((∃ n i, n < 4 ∧ p = nI n ∧ i < 8 ∧ s = nI i ∧ v = nI (rsmW R n).length ∧ mdW S S' F t (kpR R i (rsmW R n)) kz 0) ∨ ((np 4 p ∨ np 8 s) ∧ v = 0 ∧ mdW S S' F t R kz 1)), fun _ _ _ _ => False)
set_option maxRecDepth 100000 in
set_option maxHeartbeats 2000000 in
theorem c_rac12 (l : Launch) (hlt : l.stackTraces = false) : ∀ (t : Nat) (p : Int32) (s : Int32) (F : Nat → Nat × Nat) (z : Nat → Nat) (Y : Nat → Nat → Nat) (R : Rb) (kz : Nat → Nat), CtX l yX14_announce (Cond.codeWith yX14_announce cX14_announce 4 (some .int) [(5, 11, 12, 138)]) (some .int) 9 152 (sp_rac12 t p s F z Y R kz) := by
  intro t p s F z Y R kz
  refine CtX.ofH hlt (fX14, nX14, aX14, iX14, lX14, [(582, 0, 3, 1, T_rac02)], qX14, gX14, []) false tX14_announce [((5, 11, 12, 138), 1)] (fun _ _ _ => none) (by decide) (by decide) kX14_announce ⟨_, _, rfl⟩ fX14_ok nX14_ok aX14_ok iX14_ok lX14_ok (fun p e R s m args below meth c Q D cy z r A C hR1 hR2 => List.forall_mem_cons.mpr ⟨cOK_use (fun _ _ _ _ _ _ _ _ h => let ⟨sp, h1, h2, h3⟩ := u_rac02 l hlt _ _ _ _ _ _ _ _ h; ⟨sp, cOKx_V C h1 vX14_announce_582 ⟨by decide, by decide, by decide +kernel⟩ ⟨by rw [hR1]; decide, by rw [hR2]; decide⟩ (k := 15) (T := TX14) (N := 52) rfl (by decide) h2, h3⟩), fun _ h => absurd h List.not_mem_nil⟩) qX14_ok gX14_ok rfl (List.forall_mem_cons.mpr ⟨⟨by decide, mgd 1925 (by decide +kernel) (by decide +kernel)⟩, fun _ h => absurd h List.not_mem_nil⟩) (fun _ _ _ _ z => z) ?_ ?_
  · rintro _ S ⟨rfl, hp⟩
    refine ⟨Nat.le_of_ble_eq_true rfl, 300, ?_⟩
    show (True ∧ (isO S 15 t ∧ (0 = 0 ∧ (∃ (F_1 : Nat → Nat × Nat) (z_2 : Nat → Nat) (Y_3 : Nat → Nat → Nat) (R_4 : Rb) (kz_5 : Nat → Nat), (MD (sI S 1551 t (0 : Int32)) F_1 t z_2 Y_3 R_4 kz_5) ∧ 0 + (2 + nc_i (∃ n i, n < 4 ∧ p = nI n ∧ i < 8 ∧ s = nI i) (kpC R_4 s.toNatClampNeg)) ≤ 2 + nc_i (∃ n i, n < 4 ∧ p = nI n ∧ i < 8 ∧ s = nI i) (kpC R s.toNatClampNeg) ∧ 0 + (12 + nc_i (∃ n i, n < 4 ∧ p = nI n ∧ i < 8 ∧ s = nI i) (kpZ R_4 s.toNatClampNeg)) ≤ 12 + nc_i (∃ n i, n < 4 ∧ p = nI n ∧ i < 8 ∧ s = nI i) (kpZ R s.toNatClampNeg) ∧ ((∀ (x_7 : Int32) (S_6 : MM), (∃ n i, n < 4 ∧ p = nI n ∧ i < 8 ∧ s = nI i ∧ x_7 = nI (rsmW R_4 n).length ∧ mdQ (sI S 1551 t (0 : Int32)) S_6 F_1 t (kpR R_4 i (rsmW R_4 n)) kz_5) → (([] : List MV) = [] ∧ mret (some .int) (sp_rac12 t p s F z Y R kz) [.inr (.inr (some t)), .inl p, .inl s] S (some (.inl x_7)) S_6 (0 + (2 + nc_i (∃ n i, n < 4 ∧ p = nI n ∧ i < 8 ∧ s = nI i) (kpC R_4 s.toNatClampNeg))) (0 + (12 + nc_i (∃ n i, n < 4 ∧ p = nI n ∧ i < 8 ∧ s = nI i) (kpZ R_4 s.toNatClampNeg))))) ∧ ((np 4 p ∨ np 8 s) → (∀ e_9, (True ∧ (isO (sI S 1551 t (0 : Int32)) 15 t ∧ (([] : List MV) = [] ∧ mret (some .int) (sp_rac12 t p s F z Y R kz) [.inr (.inr (some t)), .inl p, .inl s] S (some (.inl (0 : Int32))) (sI (sI S 1551 t (0 : Int32)) 1551 t (1 : Int32)) (0 + (2 + nc_i (∃ n i, n < 4 ∧ p = nI n ∧ i < 8 ∧ s = nI i) (kpC R_4 s.toNatClampNeg))) (0 + (12 + nc_i (∃ n i, n < 4 ∧ p = nI n ∧ i < 8 ∧ s = nI i) (kpZ R_4 s.toNatClampNeg)))))))))))))
    refine ⟨trivial, (hp 0).1, rfl, F, z, Y, R, kz, hp.th 0, Nat.le_of_eq (Nat.zero_add _), Nat.le_of_eq (Nat.zero_add _), fun v S3 h => ?_, fun h e => ⟨trivial, (hp 0).1, rfl, trivial, ⟨_, rfl, Or.inr (⟨h, rfl, (hp.ex0 1 rfl).w hp⟩)⟩, Nat.le_of_eq (Nat.zero_add _), Nat.le_of_eq (Nat.zero_add _)⟩⟩
    obtain ⟨n, i, g0, g1, g2, g3, g4, g5⟩ := h
    exact ⟨rfl, trivial, ⟨_, rfl, Or.inl ⟨n, i, g0, g1, g2, g3, g4, g5.ok hp⟩⟩, Nat.le_of_eq (Nat.zero_add _), Nat.le_of_eq (Nat.zero_add _)⟩
  · exact fun _ _ _ _ _ h => by cases h
theorem u_rac12 (l : Launch) (hlt : l.stackTraces = false) : UsX l yX14_announce (Cond.codeWith yX14_announce cX14_announce 4 (some .int) [(5, 11, 12, 138)]) (some .int) 9 152 15 T_rac12 := by
  intro Rc Rs av S cs sl K Kx h
  unfold T_rac12 at h
  split at h
  · rename_i t_o p s
    obtain ⟨t, rfl, h_1⟩ := pa_of h
    obtain ⟨F, z, Y, R, kz, hp, hc, hs, hk⟩ := h_1
    refine ⟨(sp_rac12 t p s F z Y R kz), c_rac12 l hlt t p s F z Y R kz, fun _ _ h9 => ⟨_, _, h9.1, (h9.2 0).1⟩, ⟨rfl, hp⟩, hc, hs, fun v9 S' h8 => by
      obtain ⟨v8, h7, h8⟩ := h8
      cases h7
      exact hk _ _ h8, fun _ _ q => q.elim⟩
  · exact h.elim
def T_rsd02 : TR := fun Rc Rs av S cs sl K Kx => match av with
  | [.inr (.inr t_o), .inl p, .inl to, .inl s] => pa t_o fun t => (∃ (F : Nat → Nat × Nat) (z : Nat → Nat) (Y : Nat → Nat → Nat) (R : Rb) (kz : Nat → Nat), (MD S F t z Y R kz ∧ AbC R) ∧ cs + (3 + nc_i (∃ n o i, n < 4 ∧ p = nI n ∧ (∀ q, o = some q → q < 4) ∧ to = stI o ∧ i < 8 ∧ s = nI i ∧ (rmB (wpF R n o) n 5).length + 4 ≤ 32768) (kpC R s.toNatClampNeg)) ≤ Rc ∧ sl + (18 + nc_i (∃ n o i, n < 4 ∧ p = nI n ∧ (∀ q, o = some q → q < 4) ∧ to = stI o ∧ i < 8 ∧ s = nI i ∧ (rmB (wpF R n o) n 5).length + 4 ≤ 32768) (kpZ R s.toNatClampNeg)) ≤ Rs ∧ ((∀ (v : Int32) (S' : MM), (∃ n o i, n < 4 ∧ p = nI n ∧ (∀ q, o = some q → q < 4) ∧ to = stI o ∧ i < 8 ∧ s = nI i ∧ (rmB (wpF R n o) n 5).length + 4 ≤ 32768 ∧ v = nI (rmA (wpF R n o) n).length ∧ mdQ S S' F t (kpR R i (rmA (wpF R n o) n)) kz) → K (some (.inl v)) S' (cs + (3 + nc_i (∃ n o i, n < 4 ∧ p = nI n ∧ (∀ q, o = some q → q < 4) ∧ to = stI o ∧ i < 8 ∧ s = nI i ∧ (rmB (wpF R n o) n 5).length + 4 ≤ 32768) (kpC R s.toNatClampNeg))) (sl + (18 + nc_i (∃ n o i, n < 4 ∧ p = nI n ∧ (∀ q, o = some q → q < 4) ∧ to = stI o ∧ i < 8 ∧ s = nI i ∧ (rmB (wpF R n o) n 5).length + 4 ≤ 32768) (kpZ R s.toNatClampNeg)))) ∧ ((np 4 p ∨ (to ≠ -1 ∧ np 4 to) ∨ np 8 s) → Kx 1 S (cs + (3 + nc_i (∃ n o i, n < 4 ∧ p = nI n ∧ (∀ q, o = some q → q < 4) ∧ to = stI o ∧ i < 8 ∧ s = nI i ∧ (rmB (wpF R n o) n 5).length + 4 ≤ 32768) (kpC R s.toNatClampNeg))) (sl + (18 + nc_i (∃ n o i, n < 4 ∧ p = nI n ∧ (∀ q, o = some q → q < 4) ∧ to = stI o ∧ i < 8 ∧ s = nI i ∧ (rmB (wpF R n o) n 5).length + 4 ≤ 32768) (kpZ R s.toNatClampNeg)))) ∧ (∀ (S' : MM), (∃ n o i, n < 4 ∧ p = nI n ∧ (∀ q, o = some q → q < 4) ∧ to = stI o ∧ i < 8 ∧ s = nI i ∧ 32768 < (rmB (wpF R n o) n 5).length + 4 ∧ mdQ S S' F t R kz) → Kx 0 S' (cs + (3 + nc_i (∃ n o i, n < 4 ∧ p = nI n ∧ (∀ q, o = some q → q < 4) ∧ to = stI o ∧ i < 8 ∧ s = nI i ∧ (rmB (wpF R n o) n 5).length + 4 ≤ 32768) (kpC R s.toNatClampNeg))) (sl + (18 + nc_i (∃ n o i, n < 4 ∧ p = nI n ∧ (∀ q, o = some q → q < 4) ∧ to = stI o ∧ i < 8 ∧ s = nI i ∧ (rmB (wpF R n o) n 5).length + 4 ≤ 32768) (kpZ R s.toNatClampNeg))))))
  | _ => False
noncomputable def sp_rsd02 (t : Nat) (p : Int32) (to : Int32) (s : Int32) (F : Nat → Nat × Nat) (z : Nat → Nat) (Y : Nat → Nat → Nat) (R : Rb) (kz : Nat → Nat) : Sp := (fun av S => av = [.inr (.inr (some t)), .inl p, .inl to, .inl s] ∧ (MD S F t z Y R kz ∧ AbC R), fun _ S => 3 + nc_i (∃ n o i, n < 4 ∧ p = nI n ∧ (∀ q, o = some q → q < 4) ∧ to = stI o ∧ i < 8 ∧ s = nI i ∧ (rmB (wpF R n o) n 5).length + 4 ≤ 32768) (kpC R s.toNatClampNeg), fun _ S => 18 + nc_i (∃ n o i, n < 4 ∧ p = nI n ∧ (∀ q, o = some q → q < 4) ∧ to = stI o ∧ i < 8 ∧ s = nI i ∧ (rmB (wpF R n o) n 5).length + 4 ≤ 32768) (kpZ R s.toNatClampNeg), fun _ S rv S' => ∃ v, rv = (some (.inl v)) ∧ (∃ n o i, n < 4 ∧ p = nI n ∧ (∀ q, o = some q → q < 4) ∧ to = stI o ∧ i < 8 ∧ s = nI i ∧ (rmB (wpF R n o) n 5).length + 4 ≤ 32768 ∧ v = nI (rmA (wpF R n o) n).length ∧ mdQ S S' F t (kpR R i (rmA (wpF R n o) n)) kz), fun _ S E S' => (E = 1 ∧ (np 4 p ∨ (to ≠ -1 ∧ np 4 to) ∨ np 8 s) ∧ S' = S) ∨ (E = 0 ∧ (∃ n o i, n < 4 ∧ p = nI n ∧ (∀ q, o = some q → q < 4) ∧ to = stI o ∧ i < 8 ∧ s = nI i ∧ 32768 < (rmB (wpF R n o) n 5).length + 4 ∧ mdQ S S' F t R kz)))
set_option maxRecDepth 100000 in
set_option maxHeartbeats 2000000 in
theorem c_rsd02 (l : Launch) (hlt : l.stackTraces = false) : ∀ (t : Nat) (p : Int32) (to : Int32) (s : Int32) (F : Nat → Nat × Nat) (z : Nat → Nat) (Y : Nat → Nat → Nat) (R : Rb) (kz : Nat → Nat), CtX l yX14_send0 (Cond.code yX14_send0 cX14_send0 5 (some .int)) (some .int) 8 130 (sp_rsd02 t p to s F z Y R kz) := by
  intro t p to s F z Y R kz
  refine CtX.of hlt (fX14, nX14, aX14, iX14, lX14, [(203, 0, 2, 3, T_rgr), (144, 2, 3, 1, T_rin), (148, 2, 1, 0, T_rck), (394, 0, 3, 0, T_rwp), (387, 0, 2, 1, T_rkp)], qX14, gX14, []) false tX14_send0 (fun _ S => look [(34, ([0,1,2,3,4], I_sd t p to s Y S))]) (by decide) (by decide) kX14_send0 ⟨_, _, rfl⟩ fX14_ok nX14_ok aX14_ok iX14_ok lX14_ok (fun p e R s m args below meth c Q D cy z r A C hR1 hR2 => List.forall_mem_cons.mpr ⟨cOK_use (fun _ _ _ _ _ _ _ _ h => let ⟨sp, h1, h2, h3⟩ := u_rgr l hlt _ _ _ _ _ _ _ _ h; ⟨sp, cOKx_V C h1 vX14_send0_203 ⟨by decide, by decide, by decide +kernel⟩ ⟨by rw [hR1]; decide, by rw [hR2]; decide⟩ (k := 15) (T := TX14) (N := 52) rfl (by decide) h2, h3⟩), List.forall_mem_cons.mpr ⟨cOK_use (fun _ _ _ _ _ _ _ _ h => let ⟨sp, h1, _, h3⟩ := u_rin l _ _ _ _ _ _ _ _ h; ⟨sp, cOK_S C h1 vX14_send0_144 ⟨by decide, by decide, by decide +kernel⟩ ⟨by rw [hR1]; decide, by rw [hR2]; decide⟩, h3⟩), List.forall_mem_cons.mpr ⟨cOK_use (fun _ _ _ _ _ _ _ _ h => let ⟨sp, h1, _, h3⟩ := u_rck l hlt _ _ _ _ _ _ _ _ h; ⟨sp, cOKx_S C h1 vX14_send0_148 ⟨by decide, by decide, by decide +kernel⟩ ⟨by rw [hR1]; decide, by rw [hR2]; decide⟩, h3⟩), List.forall_mem_cons.mpr ⟨cOK_use (fun _ _ _ _ _ _ _ _ h => let ⟨sp, h1, h2, h3⟩ := u_rwp l hlt _ _ _ _ _ _ _ _ h; ⟨sp, cOKx_V C h1 vX14_send0_394 ⟨by decide, by decide, by decide +kernel⟩ ⟨by rw [hR1]; decide, by rw [hR2]; decide⟩ (k := 15) (T := TX14) (N := 52) rfl (by decide) h2, h3⟩), List.forall_mem_cons.mpr ⟨cOK_use (fun _ _ _ _ _ _ _ _ h => let ⟨sp, h1, h2, h3⟩ := u_rkp l _ _ _ _ _ _ _ _ h; ⟨sp, cOK_V C h1 vX14_send0_387 ⟨by decide, by decide, by decide +kernel⟩ ⟨by rw [hR1]; decide, by rw [hR2]; decide⟩ (k := 15) (T := TX14) (N := 52) rfl (by decide) h2, h3⟩), fun _ h => absurd h List.not_mem_nil⟩⟩⟩⟩⟩) qX14_ok gX14_ok (fun _ h => absurd h List.not_mem_nil) ?_ ?_
  · rintro _ S ⟨rfl, hp⟩
    refine ⟨Nat.le_of_ble_eq_true rfl, 300, ?_⟩
    show (0 = 0 ∧ (∃ (F_1 : Nat → Nat × Nat) (z_2 : Nat → Nat) (Y_3 : Nat → Nat → Nat) (R_4 : Rb) (kz_5 : Nat → Nat), (MD S F_1 t z_2 Y_3 R_4 kz_5) ∧ 0 + 1 ≤ 3 + nc_i (∃ n o i, n < 4 ∧ p = nI n ∧ (∀ q, o = some q → q < 4) ∧ to = stI o ∧ i < 8 ∧ s = nI i ∧ (rmB (wpF R n o) n 5).length + 4 ≤ 32768) (kpC R s.toNatClampNeg) ∧ 0 + 6 ≤ 18 + nc_i (∃ n o i, n < 4 ∧ p = nI n ∧ (∀ q, o = some q → q < 4) ∧ to = stI o ∧ i < 8 ∧ s = nI i ∧ (rmB (wpF R n o) n 5).length + 4 ≤ 32768) (kpZ R s.toNatClampNeg) ∧ ((∀ (x_7 : Option Nat) (S_6 : MM), (S_6 = S ∧ ∃ n, n < 4 ∧ p = nI n ∧ x_7 = some (Y_3 n 0)) → (2 = 2 ∧ (True ∧ 0 + 1 ≤ 3 + nc_i (∃ n o i, n < 4 ∧ p = nI n ∧ (∀ q, o = some q → q < 4) ∧ to = stI o ∧ i < 8 ∧ s = nI i ∧ (rmB (wpF R n o) n 5).length + 4 ≤ 32768) (kpC R s.toNatClampNeg) ∧ 0 + 6 ≤ 18 + nc_i (∃ n o i, n < 4 ∧ p = nI n ∧ (∀ q, o = some q → q < 4) ∧ to = stI o ∧ i < 8 ∧ s = nI i ∧ (rmB (wpF R n o) n 5).length + 4 ≤ 32768) (kpZ R s.toNatClampNeg) ∧ ((((tf ((-1 : Int32) ≤ to ∧ to ≤ (3 : Int32))) = 0 → (2 = 2 ∧ (((0 : Int32) = 0 ∨ (0 : Int32) = 1) ∧ 0 + 1 + 1 ≤ 3 + nc_i (∃ n o i, n < 4 ∧ p = nI n ∧ (∀ q, o = some q → q < 4) ∧ to = stI o ∧ i < 8 ∧ s = nI i ∧ (rmB (wpF R n o) n 5).length + 4 ≤ 32768) (kpC R s.toNatClampNeg) ∧ 0 + 6 + 6 ≤ 18 + nc_i (∃ n o i, n < 4 ∧ p = nI n ∧ (∀ q, o = some q → q < 4) ∧ to = stI o ∧ i < 8 ∧ s = nI i ∧ (rmB (wpF R n o) n 5).length + 4 ≤ 32768) (kpZ R s.toNatClampNeg) ∧ ((∀ (S_9 : MM), (S_9 = S_6 ∧ (0 : Int32) = 1) → (∃ k1, I_sd t p to s Y S k1 [(0, .inr (.inr (some t))), (1, .inl p), (2, .inl to), (3, .inl s), (4, .inr (.inr x_7))] [] S_9 (0 + 1 + 1) (0 + 6 + 6))) ∧ (((0 : Int32) = 0) → mthr (sp_rsd02 t p to s F z Y R kz) [.inr (.inr (some t)), .inl p, .inl to, .inl s] S 1 S_6 (0 + 1 + 1) (0 + 6 + 6)))))) ∧ (¬ (tf ((-1 : Int32) ≤ to ∧ to ≤ (3 : Int32))) = 0 → (2 = 2 ∧ (True ∧ 0 + 1 ≤ 3 + nc_i (∃ n o i, n < 4 ∧ p = nI n ∧ (∀ q, o = some q → q < 4) ∧ to = stI o ∧ i < 8 ∧ s = nI i ∧ (rmB (wpF R n o) n 5).length + 4 ≤ 32768) (kpC R s.toNatClampNeg) ∧ 0 + 6 ≤ 18 + nc_i (∃ n o i, n < 4 ∧ p = nI n ∧ (∀ q, o = some q → q < 4) ∧ to = stI o ∧ i < 8 ∧ s = nI i ∧ (rmB (wpF R n o) n 5).length + 4 ≤ 32768) (kpZ R s.toNatClampNeg) ∧ ((((tf ((0 : Int32) ≤ s ∧ s ≤ (7 : Int32))) = 0 → (2 = 2 ∧ (((0 : Int32) = 0 ∨ (0 : Int32) = 1) ∧ 0 + 1 + 1 ≤ 3 + nc_i (∃ n o i, n < 4 ∧ p = nI n ∧ (∀ q, o = some q → q < 4) ∧ to = stI o ∧ i < 8 ∧ s = nI i ∧ (rmB (wpF R n o) n 5).length + 4 ≤ 32768) (kpC R s.toNatClampNeg) ∧ 0 + 6 + 6 ≤ 18 + nc_i (∃ n o i, n < 4 ∧ p = nI n ∧ (∀ q, o = some q → q < 4) ∧ to = stI o ∧ i < 8 ∧ s = nI i ∧ (rmB (wpF R n o) n 5).length + 4 ≤ 32768) (kpZ R s.toNatClampNeg) ∧ ((∀ (S_12 : MM), (S_12 = S_6 ∧ (0 : Int32) = 1) → (∃ k1, I_sd t p to s Y S k1 [(0, .inr (.inr (some t))), (1, .inl p), (2, .inl to), (3, .inl s), (4, .inr (.inr x_7))] [] S_12 (0 + 1 + 1) (0 + 6 + 6))) ∧ (((0 : Int32) = 0) → mthr (sp_rsd02 t p to s F z Y R kz) [.inr (.inr (some t)), .inl p, .inl to, .inl s] S 1 S_6 (0 + 1 + 1) (0 + 6 + 6)))))) ∧ (¬ (tf ((0 : Int32) ≤ s ∧ s ≤ (7 : Int32))) = 0 → (2 = 2 ∧ (((1 : Int32) = 0 ∨ (1 : Int32) = 1) ∧ 0 + 1 + 1 ≤ 3 + nc_i (∃ n o i, n < 4 ∧ p = nI n ∧ (∀ q, o = some q → q < 4) ∧ to = stI o ∧ i < 8 ∧ s = nI i ∧ (rmB (wpF R n o) n 5).length + 4 ≤ 32768) (kpC R s.toNatClampNeg) ∧ 0 + 6 + 6 ≤ 18 + nc_i (∃ n o i, n < 4 ∧ p = nI n ∧ (∀ q, o = some q → q < 4) ∧ to = stI o ∧ i < 8 ∧ s = nI i ∧ (rmB (wpF R n o) n 5).length + 4 ≤ 32768) (kpZ R s.toNatClampNeg) ∧ ((∀ (S_14 : MM), (S_14 = S_6 ∧ (1 : Int32) = 1) → (∃ k1, I_sd t p to s Y S k1 [(0, .inr (.inr (some t))), (1, .inl p), (2, .inl to), (3, .inl s), (4, .inr (.inr x_7))] [] S_14 (0 + 1 + 1) (0 + 6 + 6))) ∧ (((1 : Int32) = 0) → mthr (sp_rsd02 t p to s F z Y R kz) [.inr (.inr (some t)), .inl p, .inl to, .inl s] S 1 S_6 (0 + 1 + 1) (0 + 6 + 6)))))))))))))))) ∧ ((np 4 p) → mthr (sp_rsd02 t p to s F z Y R kz) [.inr (.inr (some t)), .inl p, .inl to, .inl s] S 1 S (0 + 1) (0 + 6)))))
    obtain ⟨hM, hA⟩ := hp
    have fail : ∀ {a b : Nat}, (np 4 p ∨ (to ≠ -1 ∧ np 4 to) ∨ np 8 s) → a ≤ 3 → b ≤ 18 → mthr (sp_rsd02 t p to s F z Y R kz) [.inr (.inr (some t)), .inl p, .inl to, .inl s] S 1 S a b := fun h ha hb => ⟨Or.inl ⟨rfl, h, rfl⟩, Nat.le_trans ha (Nat.le_add_right _ _), Nat.le_trans hb (Nat.le_add_right _ _)⟩
    refine ⟨rfl, F, z, Y, R, kz, hM, by omega, by omega, fun v S6 h => ?_, fun h => fail (Or.inl h) (by decide) (by decide)⟩
    obtain ⟨rfl, n, hn, rfl, rfl⟩ := h
    refine ⟨rfl, trivial, by omega, by omega, fun h => ⟨rfl, Or.inl rfl, by omega, by omega, fun S9 h => absurd h.2 (by decide), fun _ => fail (Or.inr (Or.inl (in_0s h))) (by decide) (by decide)⟩, fun h => ?_⟩
    obtain ⟨o, rfl, ho⟩ := in_1s ((tf_b _).resolve_left h)
    refine ⟨rfl, trivial, by omega, by omega, fun h => ⟨rfl, Or.inl rfl, by omega, by omega, fun S9 h => absurd h.2 (by decide), fun _ => fail (Or.inr (Or.inr (in_0k (k := 7) (by decide) h))) (by decide) (by decide)⟩, fun h => ⟨rfl, Or.inr rfl, by omega, by omega, fun S9 h9 => ?_, fun h => absurd h (by decide)⟩⟩
    obtain ⟨i, hi, rfl⟩ := in_1k (k := 7) (by decide) ((tf_b _).resolve_left h)
    obtain ⟨rfl, -⟩ := h9
    exact ⟨1, n, o, i, rfl, hn, rfl, ho, rfl, hi, rfl, rfl, rfl, rfl, rfl, rfl⟩
  · intro av S hpre pc I hI k lo st S1 cs sl h
    obtain ⟨rfl, hp⟩ := hpre
    have hm := look_in hI
    rw [List.mem_singleton] at hm
    cases hm
    obtain ⟨n, o, i, rfl, hn, hpn, ho, hto, hi, hsi, rfl, rfl, rfl, rfl, rfl⟩ := h
    refine ⟨300, ?_⟩
    show ((0 ≤ (stI o) → (isO S 13 (Y n 0) ∧ (pa (mR S 1322 (Y n 0)) fun a_1 => a_1 ∈ mL S ∧ ¬ mK S a_1 < 21 ∧ mK S a_1 < 29 ∧ inR S a_1 (stI o) ∧ (0 = 0 ∧ (∃ (p_2 : Nat), nI n = nI p_2 ∧ (∃ (F_3 : Nat → Nat × Nat) (z_4 : Nat → Nat) (Y_5 : Nat → Nat → Nat) (R_6 : Rb) (kz_7 : Nat → Nat) (o_8 : Option Nat), (MD S F_3 t z_4 Y_5 R_6 kz_7 ∧ AbC R_6 ∧ p_2 < 4 ∧ (∀ q, o_8 = some q → q < 4) ∧ (eR S a_1 (stI o).toNatClampNeg) = kRo Y_5 p_2 o_8) ∧ 2 + 1 ≤ 3 + nc_i (∃ n o i, n < 4 ∧ p = nI n ∧ (∀ q, o = some q → q < 4) ∧ to = stI o ∧ i < 8 ∧ s = nI i ∧ (rmB (wpF R n o) n 5).length + 4 ≤ 32768) (kpC R s.toNatClampNeg) ∧ 12 + 6 ≤ 18 + nc_i (∃ n o i, n < 4 ∧ p = nI n ∧ (∀ q, o = some q → q < 4) ∧ to = stI o ∧ i < 8 ∧ s = nI i ∧ (rmB (wpF R n o) n 5).length + 4 ≤ 32768) (kpZ R s.toNatClampNeg) ∧ ((∀ (S_9 : MM), (wpQ9 S S_9 F_3 t z_4 Y_5 R_6 kz_7 ∧ (rmB (wpF R_6 p_2 o_8) p_2 5).length + 4 ≤ 32768 ∧ Ou S_9 (z_4 21) (z_4 (70 + 21)) (rmA (wpF R_6 p_2 o_8) p_2)) → (0 = 0 ∧ (∃ (i_10 : Nat), nI i = nI i_10 ∧ (∃ (F_11 : Nat → Nat × Nat) (z_12 : Nat → Nat) (Y_13 : Nat → Nat → Nat) (R_14 : Rb) (kz_15 : Nat → Nat) (B_16 : List Nat), (MD S_9 F_11 t z_12 Y_13 R_14 kz_15 ∧ i_10 < 8 ∧ Ou S_9 (z_12 21) (z_12 (70 + 21)) B_16 ∧ B_16 ≠ [] ∧ B_16.length ≤ 32768) ∧ 2 + 1 + (kpC R_14 i_10) ≤ 3 + nc_i (∃ n o i, n < 4 ∧ p = nI n ∧ (∀ q, o = some q → q < 4) ∧ to = stI o ∧ i < 8 ∧ s = nI i ∧ (rmB (wpF R n o) n 5).length + 4 ≤ 32768) (kpC R s.toNatClampNeg) ∧ 12 + 6 + (kpZ R_14 i_10) ≤ 18 + nc_i (∃ n o i, n < 4 ∧ p = nI n ∧ (∀ q, o = some q → q < 4) ∧ to = stI o ∧ i < 8 ∧ s = nI i ∧ (rmB (wpF R n o) n 5).length + 4 ≤ 32768) (kpZ R s.toNatClampNeg) ∧ (∀ (S_17 : MM), (mdQ S_9 S_17 F_11 t (kpR R_14 i_10 B_16) kz_15) → (([] : List MV) = [] ∧ mret (some .int) (sp_rsd02 t p to s F z Y R kz) [.inr (.inr (some t)), .inl p, .inl to, .inl s] S (some (.inl (nI B_16.length))) S_17 (2 + 1 + (kpC R_14 i_10)) (12 + 6 + (kpZ R_14 i_10)))))))) ∧ (∀ (S_18 : MM), (wpQ9 S S_18 F_3 t z_4 Y_5 R_6 kz_7 ∧ 32768 < (rmB (wpF R_6 p_2 o_8) p_2 5).length + 4) → mthr (sp_rsd02 t p to s F z Y R kz) [.inr (.inr (some t)), .inl p, .inl to, .inl s] S 0 S_18 (2 + 1) (12 + 6))))))))) ∧ (¬ 0 ≤ (stI o) → (0 = 0 ∧ (∃ (p_19 : Nat), nI n = nI p_19 ∧ (∃ (F_20 : Nat → Nat × Nat) (z_21 : Nat → Nat) (Y_22 : Nat → Nat → Nat) (R_23 : Rb) (kz_24 : Nat → Nat) (o_25 : Option Nat), (MD S F_20 t z_21 Y_22 R_23 kz_24 ∧ AbC R_23 ∧ p_19 < 4 ∧ (∀ q, o_25 = some q → q < 4) ∧ none = kRo Y_22 p_19 o_25) ∧ 2 + 1 ≤ 3 + nc_i (∃ n o i, n < 4 ∧ p = nI n ∧ (∀ q, o = some q → q < 4) ∧ to = stI o ∧ i < 8 ∧ s = nI i ∧ (rmB (wpF R n o) n 5).length + 4 ≤ 32768) (kpC R s.toNatClampNeg) ∧ 12 + 6 ≤ 18 + nc_i (∃ n o i, n < 4 ∧ p = nI n ∧ (∀ q, o = some q → q < 4) ∧ to = stI o ∧ i < 8 ∧ s = nI i ∧ (rmB (wpF R n o) n 5).length + 4 ≤ 32768) (kpZ R s.toNatClampNeg) ∧ ((∀ (S_26 : MM), (wpQ9 S S_26 F_20 t z_21 Y_22 R_23 kz_24 ∧ (rmB (wpF R_23 p_19 o_25) p_19 5).length + 4 ≤ 32768 ∧ Ou S_26 (z_21 21) (z_21 (70 + 21)) (rmA (wpF R_23 p_19 o_25) p_19)) → (0 = 0 ∧ (∃ (i_27 : Nat), nI i = nI i_27 ∧ (∃ (F_28 : Nat → Nat × Nat) (z_29 : Nat → Nat) (Y_30 : Nat → Nat → Nat) (R_31 : Rb) (kz_32 : Nat → Nat) (B_33 : List Nat), (MD S_26 F_28 t z_29 Y_30 R_31 kz_32 ∧ i_27 < 8 ∧ Ou S_26 (z_29 21) (z_29 (70 + 21)) B_33 ∧ B_33 ≠ [] ∧ B_33.length ≤ 32768) ∧ 2 + 1 + (kpC R_31 i_27) ≤ 3 + nc_i (∃ n o i, n < 4 ∧ p = nI n ∧ (∀ q, o = some q → q < 4) ∧ to = stI o ∧ i < 8 ∧ s = nI i ∧ (rmB (wpF R n o) n 5).length + 4 ≤ 32768) (kpC R s.toNatClampNeg) ∧ 12 + 6 + (kpZ R_31 i_27) ≤ 18 + nc_i (∃ n o i, n < 4 ∧ p = nI n ∧ (∀ q, o = some q → q < 4) ∧ to = stI o ∧ i < 8 ∧ s = nI i ∧ (rmB (wpF R n o) n 5).length + 4 ≤ 32768) (kpZ R s.toNatClampNeg) ∧ (∀ (S_34 : MM), (mdQ S_26 S_34 F_28 t (kpR R_31 i_27 B_33) kz_32) → (([] : List MV) = [] ∧ mret (some .int) (sp_rsd02 t p to s F z Y R kz) [.inr (.inr (some t)), .inl p, .inl to, .inl s] S (some (.inl (nI B_33.length))) S_34 (2 + 1 + (kpC R_31 i_27)) (12 + 6 + (kpZ R_31 i_27)))))))) ∧ (∀ (S_35 : MM), (wpQ9 S S_35 F_20 t z_21 Y_22 R_23 kz_24 ∧ 32768 < (rmB (wpF R_23 p_19 o_25) p_19 5).length + 4) → mthr (sp_rsd02 t p to s F z Y R kz) [.inr (.inr (some t)), .inl p, .inl to, .inl s] S 0 S_35 (2 + 1) (12 + 6))))))))
    obtain ⟨hM, hA⟩ := hp
    have cs9 : s.toNatClampNeg = i := by rw [hsi]; exact nI_clamp (by omega)
    have hln : (rmA (wpF R n o) n).length = (rmB (wpF R n o) n 5).length + 4 := by
      unfold rmA
      rw [List.length_append, List.length_map, List.length_range]
    have go1 : ∀ S28, wpQ9 S S28 F t z Y R kz ∧ (rmB (wpF R n o) n 5).length + 4 ≤ 32768 ∧ Ou S28 (z 21) (z (70 + 21)) (rmA (wpF R n o) n) → MD S28 F t z Y R kz ∧ i < 8 ∧ Ou S28 (z 21) (z (70 + 21)) (rmA (wpF R n o) n) ∧ rmA (wpF R n o) n ≠ [] ∧ (rmA (wpF R n o) n).length ≤ 32768 := fun S28 h => ⟨h.1.1, hi, h.2.2, fun e => by rw [e, List.length_nil] at hln; omega, by rw [hln]; exact h.2.1⟩
    have kk : ∀ {S28}, wpQ9 S S28 F t z Y R kz → Keep (fun c => 100 ≤ (F c).1) S S28 := fun {S28} h => h.2.1.mono (fun b _ q => by rcases q with q | q <;> omega)
    have go2 : ∀ S28, wpQ9 S S28 F t z Y R kz ∧ (rmB (wpF R n o) n 5).length + 4 ≤ 32768 ∧ Ou S28 (z 21) (z (70 + 21)) (rmA (wpF R n o) n) → ∀ S', mdQ S28 S' F t (kpR R i (rmA (wpF R n o) n)) kz → (([] : List MV) = [] ∧ mret (some .int) (sp_rsd02 t p to s F z Y R kz) [.inr (.inr (some t)), .inl p, .inl to, .inl s] S (some (.inl (nI (rmA (wpF R n o) n).length))) S' (2 + 1 + kpC R i) (12 + 6 + kpZ R i)) := fun S28 h S' hQ => ⟨rfl, trivial, ⟨_, rfl, n, o, i, hn, hpn, ho, hto, hi, hsi, h.2.1, rfl, mdQ.tr0 (kk h.1) h.1.2.2 hQ⟩, by show _ ≤ 3 + nc_i (∃ n o i, n < 4 ∧ p = nI n ∧ (∀ q, o = some q → q < 4) ∧ to = stI o ∧ i < 8 ∧ s = nI i ∧ (rmB (wpF R n o) n 5).length + 4 ≤ 32768) (kpC R s.toNatClampNeg); rw [nc_it ⟨n, o, i, hn, hpn, ho, hto, hi, hsi, h.2.1⟩, cs9]; exact Nat.le_refl _, by show _ ≤ 18 + nc_i (∃ n o i, n < 4 ∧ p = nI n ∧ (∀ q, o = some q → q < 4) ∧ to = stI o ∧ i < 8 ∧ s = nI i ∧ (rmB (wpF R n o) n 5).length + 4 ≤ 32768) (kpZ R s.toNatClampNeg); rw [nc_it ⟨n, o, i, hn, hpn, ho, hto, hi, hsi, h.2.1⟩, cs9]; exact Nat.le_refl _⟩
    have go3 : ∀ S29, wpQ9 S S29 F t z Y R kz ∧ 32768 < (rmB (wpF R n o) n 5).length + 4 → mthr (sp_rsd02 t p to s F z Y R kz) [.inr (.inr (some t)), .inl p, .inl to, .inl s] S 0 S29 (2 + 1) (12 + 6) := fun S29 h => ⟨Or.inr ⟨rfl, n, o, i, hn, hpn, ho, hto, hi, hsi, h.2, F, z, Y, h.1.1, fun _ _ => rfl, kk h.1, h.1.2.2⟩, Nat.le_add_right _ _, Nat.le_add_right _ _⟩
    rw [cs9]
    cases o with
    | none =>
      refine ⟨fun q => absurd q (by decide), fun _ => ⟨rfl, n, rfl, F, z, Y, R, kz, none, ⟨hM, hA, hn, ho, rfl⟩, by omega, by omega, fun S28 h => ⟨rfl, i, rfl, F, z, Y, R, kz, _, go1 S28 h, Nat.le_of_eq (by rw [nc_it ⟨n, none, i, hn, hpn, ho, hto, hi, hsi, h.2.1⟩]), Nat.le_of_eq (by rw [nc_it ⟨n, none, i, hn, hpn, ho, hto, hi, hsi, h.2.1⟩]), go2 S28 h⟩, go3⟩⟩
    | some q =>
      have hq := ho q rfl
      have g := (hM 2 n hn).2.1
      have r22 := g.row (k := 22) (by decide) (by decide) (by decide)
      have k22 := (hM 2 n hn).2.2.1 q hq
      have cq : (nI q).toNatClampNeg = q := nI_clamp (by omega)
      refine ⟨fun _ => ⟨(g 0).1, pa_i r22.1 ⟨r22.2.1.1, by rw [r22.2.1.2]; decide, by rw [r22.2.1.2]; decide, inRn (N := 4) r22.2.2 hq (by decide), rfl, n, rfl, F, z, Y, R, kz, some q, ⟨hM, hA, hn, ho, ?_⟩, by omega, by omega, fun S28 h => ⟨rfl, i, rfl, F, z, Y, R, kz, _, go1 S28 h, Nat.le_of_eq (by rw [nc_it ⟨n, some q, i, hn, hpn, ho, hto, hi, hsi, h.2.1⟩]), Nat.le_of_eq (by rw [nc_it ⟨n, some q, i, hn, hpn, ho, hto, hi, hsi, h.2.1⟩]), go2 S28 h⟩, go3⟩⟩, fun w => absurd (Int32.not_lt.1 (nI_pos (by omega))) w⟩
      show eR S (Y n 22) (nI q).toNatClampNeg = _
      rw [cq]; exact k22.1
theorem u_rsd02 (l : Launch) (hlt : l.stackTraces = false) : UsX l yX14_send0 (Cond.code yX14_send0 cX14_send0 5 (some .int)) (some .int) 8 130 15 T_rsd02 := by
  intro Rc Rs av S cs sl K Kx h
  unfold T_rsd02 at h
  split at h
  · rename_i t_o p to s
    obtain ⟨t, rfl, h_1⟩ := pa_of h
    obtain ⟨F, z, Y, R, kz, hp, hc, hs, hk, hx0, hx1⟩ := h_1
    refine ⟨(sp_rsd02 t p to s F z Y R kz), c_rsd02 l hlt t p to s F z Y R kz, fun _ _ h9 => ⟨_, _, h9.1, (h9.2.1 0).1⟩, ⟨rfl, hp⟩, hc, hs, fun v9 S' h8 => by
      obtain ⟨v8, h7, h8⟩ := h8
      cases h7
      exact hk _ _ h8, fun _ _ q => by
      rcases q with ⟨rfl, q⟩ | ⟨rfl, q⟩
      · obtain ⟨q, rfl⟩ := q
        exact hx0 q
      · exact hx1 _ q⟩
  · exact h.elim
def T_rsd12 : TR := fun Rc Rs av S cs sl K _Kx => match av with
  | [.inr (.inr t_o), .inl p, .inl to, .inl s] => pa t_o fun t => (∃ (F : Nat → Nat × Nat) (z : Nat → Nat) (Y : Nat → Nat → Nat) (R : Rb) (kz : Nat → Nat), (MD S F t z Y R kz ∧ AbC R) ∧ cs + (3 + nc_i (∃ n o i, n < 4 ∧ p = nI n ∧ (∀ q, o = some q → q < 4) ∧ to = stI o ∧ i < 8 ∧ s = nI i ∧ (rmB (wpF R n o) n 5).length + 4 ≤ 32768) (kpC R s.toNatClampNeg)) ≤ Rc ∧ sl + (18 + nc_i (∃ n o i, n < 4 ∧ p = nI n ∧ (∀ q, o = some q → q < 4) ∧ to = stI o ∧ i < 8 ∧ s = nI i ∧ (rmB (wpF R n o) n 5).length + 4 ≤ 32768) (kpZ R s.toNatClampNeg)) ≤ Rs ∧ (∀ (v : Int32) (S' : MM), ((∃ n o i, n < 4 ∧ p = nI n ∧ (∀ q, o = some q → q < 4) ∧ to = stI o ∧ i < 8 ∧ s = nI i ∧ (rmB (wpF R n o) n 5).length + 4 ≤ 32768 ∧ v = nI (rmA (wpF R n o) n).length ∧ mdW S S' F t (kpR R i (rmA (wpF R n o) n)) kz 0) ∨ ((np 4 p ∨ (to ≠ -1 ∧ np 4 to) ∨ np 8 s) ∧ v = 0 ∧ mdW S S' F t R kz 1) ∨ ((∃ n o i, n < 4 ∧ p = nI n ∧ (∀ q, o = some q → q < 4) ∧ to = stI o ∧ i < 8 ∧ s = nI i ∧ 32768 < (rmB (wpF R n o) n 5).length + 4 ∧ mdW S S' F t R kz 2) ∧ v = 0)) → K (some (.inl v)) S' (cs + (3 + nc_i (∃ n o i, n < 4 ∧ p = nI n ∧ (∀ q, o = some q → q < 4) ∧ to = stI o ∧ i < 8 ∧ s = nI i ∧ (rmB (wpF R n o) n 5).length + 4 ≤ 32768) (kpC R s.toNatClampNeg))) (sl + (18 + nc_i (∃ n o i, n < 4 ∧ p = nI n ∧ (∀ q, o = some q → q < 4) ∧ to = stI o ∧ i < 8 ∧ s = nI i ∧ (rmB (wpF R n o) n 5).length + 4 ≤ 32768) (kpZ R s.toNatClampNeg)))))
  | _ => False
noncomputable def sp_rsd12 (t : Nat) (p : Int32) (to : Int32) (s : Int32) (F : Nat → Nat × Nat) (z : Nat → Nat) (Y : Nat → Nat → Nat) (R : Rb) (kz : Nat → Nat) : Sp := (fun av S => av = [.inr (.inr (some t)), .inl p, .inl to, .inl s] ∧ (MD S F t z Y R kz ∧ AbC R), fun _ S => 3 + nc_i (∃ n o i, n < 4 ∧ p = nI n ∧ (∀ q, o = some q → q < 4) ∧ to = stI o ∧ i < 8 ∧ s = nI i ∧ (rmB (wpF R n o) n 5).length + 4 ≤ 32768) (kpC R s.toNatClampNeg), fun _ S => 18 + nc_i (∃ n o i, n < 4 ∧ p = nI n ∧ (∀ q, o = some q → q < 4) ∧ to = stI o ∧ i < 8 ∧ s = nI i ∧ (rmB (wpF R n o) n 5).length + 4 ≤ 32768) (kpZ R s.toNatClampNeg), fun _ S rv S' => ∃ v, rv = (some (.inl v)) ∧ ((∃ n o i, n < 4 ∧ p = nI n ∧ (∀ q, o = some q → q < 4) ∧ to = stI o ∧ i < 8 ∧ s = nI i ∧ (rmB (wpF R n o) n 5).length + 4 ≤ 32768 ∧ v = nI (rmA (wpF R n o) n).length ∧ mdW S S' F t (kpR R i (rmA (wpF R n o) n)) kz 0) ∨ ((np 4 p ∨ (to ≠ -1 ∧ np 4 to) ∨ np 8 s) ∧ v = 0 ∧ mdW S S' F t R kz 1) ∨ ((∃ n o i, n < 4 ∧ p = nI n ∧ (∀ q, o = some q → q < 4) ∧ to = stI o ∧ i < 8 ∧ s = nI i ∧ 32768 < (rmB (wpF R n o) n 5).length + 4 ∧ mdW S S' F t R kz 2) ∧ v = 0)), fun _ _ _ _ => False)
set_option maxRecDepth 100000 in
set_option maxHeartbeats 2000000 in
theorem c_rsd12 (l : Launch) (hlt : l.stackTraces = false) : ∀ (t : Nat) (p : Int32) (to : Int32) (s : Int32) (F : Nat → Nat × Nat) (z : Nat → Nat) (Y : Nat → Nat → Nat) (R : Rb) (kz : Nat → Nat), CtX l yX14_send (Cond.codeWith yX14_send cX14_send 5 (some .int) [(5, 12, 13, 138), (5, 12, 23, 156)]) (some .int) 9 154 (sp_rsd12 t p to s F z Y R kz) := by
  intro t p to s F z Y R kz
  refine CtX.ofH hlt (fX14, nX14, aX14, iX14, lX14, [(585, 0, 4, 1, T_rsd02)], qX14, gX14, []) false tX14_send [((5, 12, 13, 138), 1), ((5, 12, 23, 156), 0)] (fun _ _ _ => none) (by decide) (by decide) kX14_send ⟨_, _, rfl⟩ fX14_ok nX14_ok aX14_ok iX14_ok lX14_ok (fun p e R s m args below meth c Q D cy z r A C hR1 hR2 => List.forall_mem_cons.mpr ⟨cOK_use (fun _ _ _ _ _ _ _ _ h => let ⟨sp, h1, h2, h3⟩ := u_rsd02 l hlt _ _ _ _ _ _ _ _ h; ⟨sp, cOKx_V C h1 vX14_send_585 ⟨by decide, by decide, by decide +kernel⟩ ⟨by rw [hR1]; decide, by rw [hR2]; decide⟩ (k := 15) (T := TX14) (N := 52) rfl (by decide) h2, h3⟩), fun _ h => absurd h List.not_mem_nil⟩) qX14_ok gX14_ok rfl (List.forall_mem_cons.mpr ⟨⟨by decide, mgd 1925 (by decide +kernel) (by decide +kernel)⟩, List.forall_mem_cons.mpr ⟨⟨by decide, mgd 1915 (by decide +kernel) (by decide +kernel)⟩, fun _ h => absurd h List.not_mem_nil⟩⟩) (fun _ _ _ _ z => z) ?_ ?_
  · rintro _ S ⟨rfl, hp⟩
    refine ⟨Nat.le_of_ble_eq_true rfl, 300, ?_⟩
    show (True ∧ (isO S 15 t ∧ (0 = 0 ∧ (∃ (F_1 : Nat → Nat × Nat) (z_2 : Nat → Nat) (Y_3 : Nat → Nat → Nat) (R_4 : Rb) (kz_5 : Nat → Nat), (MD (sI S 1551 t (0 : Int32)) F_1 t z_2 Y_3 R_4 kz_5 ∧ AbC R_4) ∧ 0 + (3 + nc_i (∃ n o i, n < 4 ∧ p = nI n ∧ (∀ q, o = some q → q < 4) ∧ to = stI o ∧ i < 8 ∧ s = nI i ∧ (rmB (wpF R_4 n o) n 5).length + 4 ≤ 32768) (kpC R_4 s.toNatClampNeg)) ≤ 3 + nc_i (∃ n o i, n < 4 ∧ p = nI n ∧ (∀ q, o = some q → q < 4) ∧ to = stI o ∧ i < 8 ∧ s = nI i ∧ (rmB (wpF R n o) n 5).length + 4 ≤ 32768) (kpC R s.toNatClampNeg) ∧ 0 + (18 + nc_i (∃ n o i, n < 4 ∧ p = nI n ∧ (∀ q, o = some q → q < 4) ∧ to = stI o ∧ i < 8 ∧ s = nI i ∧ (rmB (wpF R_4 n o) n 5).length + 4 ≤ 32768) (kpZ R_4 s.toNatClampNeg)) ≤ 18 + nc_i (∃ n o i, n < 4 ∧ p = nI n ∧ (∀ q, o = some q → q < 4) ∧ to = stI o ∧ i < 8 ∧ s = nI i ∧ (rmB (wpF R n o) n 5).length + 4 ≤ 32768) (kpZ R s.toNatClampNeg) ∧ ((∀ (x_7 : Int32) (S_6 : MM), (∃ n o i, n < 4 ∧ p = nI n ∧ (∀ q, o = some q → q < 4) ∧ to = stI o ∧ i < 8 ∧ s = nI i ∧ (rmB (wpF R_4 n o) n 5).length + 4 ≤ 32768 ∧ x_7 = nI (rmA (wpF R_4 n o) n).length ∧ mdQ (sI S 1551 t (0 : Int32)) S_6 F_1 t (kpR R_4 i (rmA (wpF R_4 n o) n)) kz_5) → (([] : List MV) = [] ∧ mret (some .int) (sp_rsd12 t p to s F z Y R kz) [.inr (.inr (some t)), .inl p, .inl to, .inl s] S (some (.inl x_7)) S_6 (0 + (3 + nc_i (∃ n o i, n < 4 ∧ p = nI n ∧ (∀ q, o = some q → q < 4) ∧ to = stI o ∧ i < 8 ∧ s = nI i ∧ (rmB (wpF R_4 n o) n 5).length + 4 ≤ 32768) (kpC R_4 s.toNatClampNeg))) (0 + (18 + nc_i (∃ n o i, n < 4 ∧ p = nI n ∧ (∀ q, o = some q → q < 4) ∧ to = stI o ∧ i < 8 ∧ s = nI i ∧ (rmB (wpF R_4 n o) n 5).length + 4 ≤ 32768) (kpZ R_4 s.toNatClampNeg))))) ∧ ((np 4 p ∨ (to ≠ -1 ∧ np 4 to) ∨ np 8 s) → (∀ e_9, (True ∧ (isO (sI S 1551 t (0 : Int32)) 15 t ∧ (([] : List MV) = [] ∧ mret (some .int) (sp_rsd12 t p to s F z Y R kz) [.inr (.inr (some t)), .inl p, .inl to, .inl s] S (some (.inl (0 : Int32))) (sI (sI S 1551 t (0 : Int32)) 1551 t (1 : Int32)) (0 + (3 + nc_i (∃ n o i, n < 4 ∧ p = nI n ∧ (∀ q, o = some q → q < 4) ∧ to = stI o ∧ i < 8 ∧ s = nI i ∧ (rmB (wpF R_4 n o) n 5).length + 4 ≤ 32768) (kpC R_4 s.toNatClampNeg))) (0 + (18 + nc_i (∃ n o i, n < 4 ∧ p = nI n ∧ (∀ q, o = some q → q < 4) ∧ to = stI o ∧ i < 8 ∧ s = nI i ∧ (rmB (wpF R_4 n o) n 5).length + 4 ≤ 32768) (kpZ R_4 s.toNatClampNeg)))))))) ∧ (∀ (S_10 : MM), (∃ n o i, n < 4 ∧ p = nI n ∧ (∀ q, o = some q → q < 4) ∧ to = stI o ∧ i < 8 ∧ s = nI i ∧ 32768 < (rmB (wpF R_4 n o) n 5).length + 4 ∧ mdQ (sI S 1551 t (0 : Int32)) S_10 F_1 t R_4 kz_5) → (∀ e_11, (True ∧ (isO S_10 15 t ∧ (([] : List MV) = [] ∧ mret (some .int) (sp_rsd12 t p to s F z Y R kz) [.inr (.inr (some t)), .inl p, .inl to, .inl s] S (some (.inl (0 : Int32))) (sI S_10 1551 t (2 : Int32)) (0 + (3 + nc_i (∃ n o i, n < 4 ∧ p = nI n ∧ (∀ q, o = some q → q < 4) ∧ to = stI o ∧ i < 8 ∧ s = nI i ∧ (rmB (wpF R_4 n o) n 5).length + 4 ≤ 32768) (kpC R_4 s.toNatClampNeg))) (0 + (18 + nc_i (∃ n o i, n < 4 ∧ p = nI n ∧ (∀ q, o = some q → q < 4) ∧ to = stI o ∧ i < 8 ∧ s = nI i ∧ (rmB (wpF R_4 n o) n 5).length + 4 ≤ 32768) (kpZ R_4 s.toNatClampNeg)))))))))))))
    obtain ⟨hp, hA⟩ := hp
    refine ⟨trivial, (hp 0).1, rfl, F, z, Y, R, kz, ⟨hp.th 0, hA⟩, Nat.le_of_eq (Nat.zero_add _), Nat.le_of_eq (Nat.zero_add _), fun v S3 h => ?_, fun h e => ⟨trivial, (hp 0).1, rfl, trivial, ⟨_, rfl, Or.inr (Or.inl ⟨h, rfl, (hp.ex0 1 rfl).w hp⟩)⟩, Nat.le_of_eq (Nat.zero_add _), Nat.le_of_eq (Nat.zero_add _)⟩, fun S9 h e => ?_⟩
    · obtain ⟨n, o, i, g0, g1, g2, g3, g4, g5, g6, g7, g8⟩ := h
      exact ⟨rfl, trivial, ⟨_, rfl, Or.inl ⟨n, o, i, g0, g1, g2, g3, g4, g5, g6, g7, g8.ok hp⟩⟩, Nat.le_of_eq (Nat.zero_add _), Nat.le_of_eq (Nat.zero_add _)⟩
    · obtain ⟨n, o, i, g0, g1, g2, g3, g4, g5, g6, g7⟩ := h
      obtain ⟨F9, z9, Y9, M9, -⟩ := id g7
      exact ⟨trivial, (M9 0).1, rfl, trivial, ⟨_, rfl, Or.inr (Or.inr (⟨⟨n, o, i, g0, g1, g2, g3, g4, g5, g6, g7.ex hp 2 rfl⟩, rfl⟩))⟩, Nat.le_of_eq (Nat.zero_add _), Nat.le_of_eq (Nat.zero_add _)⟩
  · exact fun _ _ _ _ _ h => by cases h
theorem u_rsd12 (l : Launch) (hlt : l.stackTraces = false) : UsX l yX14_send (Cond.codeWith yX14_send cX14_send 5 (some .int) [(5, 12, 13, 138), (5, 12, 23, 156)]) (some .int) 9 154 15 T_rsd12 := by
  intro Rc Rs av S cs sl K Kx h
  unfold T_rsd12 at h
  split at h
  · rename_i t_o p to s
    obtain ⟨t, rfl, h_1⟩ := pa_of h
    obtain ⟨F, z, Y, R, kz, hp, hc, hs, hk⟩ := h_1
    refine ⟨(sp_rsd12 t p to s F z Y R kz), c_rsd12 l hlt t p to s F z Y R kz, fun _ _ h9 => ⟨_, _, h9.1, (h9.2.1 0).1⟩, ⟨rfl, hp⟩, hc, hs, fun v9 S' h8 => by
      obtain ⟨v8, h7, h8⟩ := h8
      cases h7
      exact hk _ _ h8, fun _ _ q => q.elim⟩
  · exact h.elim
