/-! ===== The reference's undo and differ again ===== -/
def T_run02 : TR := fun Rc Rs av S cs sl K Kx => match av with
  | [.inr (.inr t_o), .inl p] => pa t_o fun t => (∃ (F : Nat → Nat × Nat) (z : Nat → Nat) (Y : Nat → Nat → Nat) (R : Rb) (kz : Nat → Nat), (MD S F t z Y R kz ∧ AbC R ∧ UcP R) ∧ cs + (3 + nc_i (∃ n d c, udA R p n d c ∧ roP (R.Q.G n) n (udL R n c).length) (dC1 R p.toNatClampNeg (uC R p.toNatClampNeg))) ≤ Rc ∧ sl + (18 + nc_i (∃ n d c, udA R p n d c ∧ roP (R.Q.G n) n (udL R n c).length) (dC2 R p.toNatClampNeg (uC R p.toNatClampNeg))) ≤ Rs ∧ ((∀ (v : Int32) (S' : MM), (rudQ S S' F t R kz p v) → K (some (.inl v)) S' (cs + (3 + nc_i (∃ n d c, udA R p n d c ∧ roP (R.Q.G n) n (udL R n c).length) (dC1 R p.toNatClampNeg (uC R p.toNatClampNeg)))) (sl + (18 + nc_i (∃ n d c, udA R p n d c ∧ roP (R.Q.G n) n (udL R n c).length) (dC2 R p.toNatClampNeg (uC R p.toNatClampNeg))))) ∧ ((np 4 p) → Kx 1 S (cs + (3 + nc_i (∃ n d c, udA R p n d c ∧ roP (R.Q.G n) n (udL R n c).length) (dC1 R p.toNatClampNeg (uC R p.toNatClampNeg)))) (sl + (18 + nc_i (∃ n d c, udA R p n d c ∧ roP (R.Q.G n) n (udL R n c).length) (dC2 R p.toNatClampNeg (uC R p.toNatClampNeg))))) ∧ ((∃ n, n < 4 ∧ p = nI n ∧ R.C n = []) → Kx 2 S (cs + (3 + nc_i (∃ n d c, udA R p n d c ∧ roP (R.Q.G n) n (udL R n c).length) (dC1 R p.toNatClampNeg (uC R p.toNatClampNeg)))) (sl + (18 + nc_i (∃ n d c, udA R p n d c ∧ roP (R.Q.G n) n (udL R n c).length) (dC2 R p.toNatClampNeg (uC R p.toNatClampNeg))))) ∧ (∀ (S' : MM), (rudX S S' F t R kz p) → Kx 0 S' (cs + (3 + nc_i (∃ n d c, udA R p n d c ∧ roP (R.Q.G n) n (udL R n c).length) (dC1 R p.toNatClampNeg (uC R p.toNatClampNeg)))) (sl + (18 + nc_i (∃ n d c, udA R p n d c ∧ roP (R.Q.G n) n (udL R n c).length) (dC2 R p.toNatClampNeg (uC R p.toNatClampNeg)))))))
  | _ => False
noncomputable def sp_run02 (t : Nat) (p : Int32) (F : Nat → Nat × Nat) (z : Nat → Nat) (Y : Nat → Nat → Nat) (R : Rb) (kz : Nat → Nat) : Sp := (fun av S => av = [.inr (.inr (some t)), .inl p] ∧ (MD S F t z Y R kz ∧ AbC R ∧ UcP R), fun _ S => 3 + nc_i (∃ n d c, udA R p n d c ∧ roP (R.Q.G n) n (udL R n c).length) (dC1 R p.toNatClampNeg (uC R p.toNatClampNeg)), fun _ S => 18 + nc_i (∃ n d c, udA R p n d c ∧ roP (R.Q.G n) n (udL R n c).length) (dC2 R p.toNatClampNeg (uC R p.toNatClampNeg)), fun _ S rv S' => ∃ v, rv = (some (.inl v)) ∧ (rudQ S S' F t R kz p v), fun _ S E S' => (E = 1 ∧ (np 4 p) ∧ S' = S) ∨ (E = 2 ∧ (∃ n, n < 4 ∧ p = nI n ∧ R.C n = []) ∧ S' = S) ∨ (E = 0 ∧ (rudX S S' F t R kz p)))
set_option maxRecDepth 100000 in
set_option maxHeartbeats 2000000 in
theorem c_run02 (l : Launch) (hlt : l.stackTraces = false) : ∀ (t : Nat) (p : Int32) (F : Nat → Nat × Nat) (z : Nat → Nat) (Y : Nat → Nat → Nat) (R : Rb) (kz : Nat → Nat), CtX l yX14_undo0 (Cond.code yX14_undo0 cX14_undo0 12 (some .int)) (some .int) 8 130 (sp_run02 t p F z Y R kz) := by
  intro t p F z Y R kz
  refine CtX.of hlt (fX14, nX14, aX14, iX14, lX14, [(203, 0, 2, 3, T_rgr), (236, 2, 1, 0, T_rth), (242, 0, 3, 1, T_rfn), (249, 0, 2, 1, T_rish), (214, 0, 4, 0, T_rnr), (256, 0, 2, 1, T_rsbf), (221, 0, 2, 1, T_row7), (232, 0, 3, 0, T_rer), (224, 0, 4, 0, T_ris)], qX14, gX14, []) false tX14_undo0 (fun _ S => look [(21, ([0,1,2], I_ud1 t p Y R S)), (56, ([0,1,2,3,4,5,6,7,8], I_ud2 t p F z Y R kz S)), (71, ([0,1,2,3,4,5,6,7,8,9,10], I_ud3 t p F z Y R kz S)), (157, ([0,1,2,3,4,5,6,7,8,9,10], I_ud4 t p F z Y R kz S)), (163, ([0,1,2,3,4,5,6,7,8,9], I_ud5 t p F z Y R kz S)), (186, ([0,1,2,3,4,5,6,7,8], I_ud6 t p F z Y R kz S)), (192, ([0,1,2,3,6,7], I_ud7 t p F z Y R kz S)), (213, ([0,1,2,3,6,7,8], I_ud8 t p F z Y R kz S))]) (by decide) (by decide) kX14_undo0 ⟨_, _, rfl⟩ fX14_ok nX14_ok aX14_ok iX14_ok lX14_ok (fun p e R s m args below meth c Q D cy z r A C hR1 hR2 => List.forall_mem_cons.mpr ⟨cOK_use (fun _ _ _ _ _ _ _ _ h => let ⟨sp, h1, h2, h3⟩ := u_rgr l hlt _ _ _ _ _ _ _ _ h; ⟨sp, cOKx_V C h1 vX14_undo0_203 ⟨by decide, by decide, by decide +kernel⟩ ⟨by rw [hR1]; decide, by rw [hR2]; decide⟩ (k := 15) (T := TX14) (N := 52) rfl (by decide) h2, h3⟩), List.forall_mem_cons.mpr ⟨cOK_use (fun _ _ _ _ _ _ _ _ h => let ⟨sp, h1, _, h3⟩ := u_rth l hlt _ _ _ _ _ _ _ _ h; ⟨sp, cOKx_S C h1 vX14_undo0_236 ⟨by decide, by decide, by decide +kernel⟩ ⟨by rw [hR1]; decide, by rw [hR2]; decide⟩, h3⟩), List.forall_mem_cons.mpr ⟨cOK_use (fun _ _ _ _ _ _ _ _ h => let ⟨sp, h1, h2, h3⟩ := u_rfn l _ _ _ _ _ _ _ _ h; ⟨sp, cOK_V C h1 vX14_undo0_242 ⟨by decide, by decide, by decide +kernel⟩ ⟨by rw [hR1]; decide, by rw [hR2]; decide⟩ (k := 13) (T := TX12) (N := 27) rfl (by decide) h2, h3⟩), List.forall_mem_cons.mpr ⟨cOK_use (fun _ _ _ _ _ _ _ _ h => let ⟨sp, h1, h2, h3⟩ := u_rish l _ _ _ _ _ _ _ _ h; ⟨sp, cOK_V C h1 vX14_undo0_249 ⟨by decide, by decide, by decide +kernel⟩ ⟨by rw [hR1]; decide, by rw [hR2]; decide⟩ (k := 13) (T := TX12) (N := 27) rfl (by decide) h2, h3⟩), List.forall_mem_cons.mpr ⟨cOK_use (fun _ _ _ _ _ _ _ _ h => let ⟨sp, h1, h2, h3⟩ := u_rnr l hlt _ _ _ _ _ _ _ _ h; ⟨sp, cOKx_V C h1 vX14_undo0_214 ⟨by decide, by decide, by decide +kernel⟩ ⟨by rw [hR1]; decide, by rw [hR2]; decide⟩ (k := 15) (T := TX14) (N := 52) rfl (by decide) h2, h3⟩), List.forall_mem_cons.mpr ⟨cOK_use (fun _ _ _ _ _ _ _ _ h => let ⟨sp, h1, h2, h3⟩ := u_rsbf l _ _ _ _ _ _ _ _ h; ⟨sp, cOK_V C h1 vX14_undo0_256 ⟨by decide, by decide, by decide +kernel⟩ ⟨by rw [hR1]; decide, by rw [hR2]; decide⟩ (k := 13) (T := TX12) (N := 27) rfl (by decide) h2, h3⟩), List.forall_mem_cons.mpr ⟨cOK_use (fun _ _ _ _ _ _ _ _ h => let ⟨sp, h1, h2, h3⟩ := u_row7 l _ _ _ _ _ _ _ _ h; ⟨sp, cOK_V C h1 vX14_undo0_221 ⟨by decide, by decide, by decide +kernel⟩ ⟨by rw [hR1]; decide, by rw [hR2]; decide⟩ (k := 15) (T := TX14) (N := 52) rfl (by decide) h2, h3⟩), List.forall_mem_cons.mpr ⟨cOK_use (fun _ _ _ _ _ _ _ _ h => let ⟨sp, h1, h2, h3⟩ := u_rer l _ _ _ _ _ _ _ _ h; ⟨sp, cOK_V C h1 vX14_undo0_232 ⟨by decide, by decide, by decide +kernel⟩ ⟨by rw [hR1]; decide, by rw [hR2]; decide⟩ (k := 13) (T := TX12) (N := 27) rfl (by decide) h2, h3⟩), List.forall_mem_cons.mpr ⟨cOK_use (fun _ _ _ _ _ _ _ _ h => let ⟨sp, h1, h2, h3⟩ := u_ris l _ _ _ _ _ _ _ _ h; ⟨sp, cOK_V C h1 vX14_undo0_224 ⟨by decide, by decide, by decide +kernel⟩ ⟨by rw [hR1]; decide, by rw [hR2]; decide⟩ (k := 13) (T := TX12) (N := 27) rfl (by decide) h2, h3⟩), fun _ h => absurd h List.not_mem_nil⟩⟩⟩⟩⟩⟩⟩⟩⟩) qX14_ok gX14_ok (fun _ h => absurd h List.not_mem_nil) ?_ ?_
  · rintro _ S ⟨rfl, hp⟩
    refine ⟨Nat.le_of_ble_eq_true rfl, 300, ?_⟩
    show (0 = 0 ∧ (∃ (F_1 : Nat → Nat × Nat) (z_2 : Nat → Nat) (Y_3 : Nat → Nat → Nat) (R_4 : Rb) (kz_5 : Nat → Nat), (MD S F_1 t z_2 Y_3 R_4 kz_5) ∧ 0 + 1 ≤ 3 + nc_i (∃ n d c, udA R p n d c ∧ roP (R.Q.G n) n (udL R n c).length) (dC1 R p.toNatClampNeg (uC R p.toNatClampNeg)) ∧ 0 + 6 ≤ 18 + nc_i (∃ n d c, udA R p n d c ∧ roP (R.Q.G n) n (udL R n c).length) (dC2 R p.toNatClampNeg (uC R p.toNatClampNeg)) ∧ ((∀ (x_7 : Option Nat) (S_6 : MM), (S_6 = S ∧ ∃ n, n < 4 ∧ p = nI n ∧ x_7 = some (Y_3 n 0)) → (pa x_7 fun a_8 => isO S_6 13 a_8 ∧ (((mI S_6 1326 a_8) ≤ 0 → (2 = 2 ∧ (((0 : Int32) = 0 ∨ (0 : Int32) = 1) ∧ 0 + 1 + 1 ≤ 3 + nc_i (∃ n d c, udA R p n d c ∧ roP (R.Q.G n) n (udL R n c).length) (dC1 R p.toNatClampNeg (uC R p.toNatClampNeg)) ∧ 0 + 6 + 6 ≤ 18 + nc_i (∃ n d c, udA R p n d c ∧ roP (R.Q.G n) n (udL R n c).length) (dC2 R p.toNatClampNeg (uC R p.toNatClampNeg)) ∧ ((∀ (S_9 : MM), (S_9 = S_6 ∧ (0 : Int32) = 1) → (∃ k1, I_ud1 t p Y R S k1 [(0, .inr (.inr (some t))), (1, .inl p), (2, .inr (.inr x_7))] [] S_9 (0 + 1 + 1) (0 + 6 + 6))) ∧ (((0 : Int32) = 0) → mthr (sp_run02 t p F z Y R kz) [.inr (.inr (some t)), .inl p] S 2 S_6 (0 + 1 + 1) (0 + 6 + 6)))))) ∧ (¬ (mI S_6 1326 a_8) ≤ 0 → (2 = 2 ∧ (((1 : Int32) = 0 ∨ (1 : Int32) = 1) ∧ 0 + 1 + 1 ≤ 3 + nc_i (∃ n d c, udA R p n d c ∧ roP (R.Q.G n) n (udL R n c).length) (dC1 R p.toNatClampNeg (uC R p.toNatClampNeg)) ∧ 0 + 6 + 6 ≤ 18 + nc_i (∃ n d c, udA R p n d c ∧ roP (R.Q.G n) n (udL R n c).length) (dC2 R p.toNatClampNeg (uC R p.toNatClampNeg)) ∧ ((∀ (S_11 : MM), (S_11 = S_6 ∧ (1 : Int32) = 1) → (∃ k1, I_ud1 t p Y R S k1 [(0, .inr (.inr (some t))), (1, .inl p), (2, .inr (.inr x_7))] [] S_11 (0 + 1 + 1) (0 + 6 + 6))) ∧ (((1 : Int32) = 0) → mthr (sp_run02 t p F z Y R kz) [.inr (.inr (some t)), .inl p] S 2 S_6 (0 + 1 + 1) (0 + 6 + 6))))))))) ∧ ((np 4 p) → mthr (sp_run02 t p F z Y R kz) [.inr (.inr (some t)), .inl p] S 1 S (0 + 1) (0 + 6)))))
    obtain ⟨hM, hA, hU⟩ := hp
    refine ⟨rfl, F, z, Y, R, kz, hM, by omega, by omega, fun v S6 h => ?_, fun h => ⟨Or.inl ⟨rfl, h, rfl⟩, by show 0 + 1 ≤ 3 + nc_i (∃ n d c, udA R p n d c ∧ roP (R.Q.G n) n (udL R n c).length) (dC1 R p.toNatClampNeg (uC R p.toNatClampNeg)); omega, by show 0 + 6 ≤ 18 + nc_i (∃ n d c, udA R p n d c ∧ roP (R.Q.G n) n (udL R n c).length) (dC2 R p.toNatClampNeg (uC R p.toNatClampNeg)); omega⟩⟩
    obtain ⟨e6, n, hn, hpn, rfl⟩ := h
    subst S6
    have hRP := (hM 2 n hn).2
    have g := hRP.1
    have e26 : mI S 1326 (Y n 0) = nI (R.C n).length := hRP.2.2.1
    have hc8 := hRP.2.2.2.1
    refine pa_i rfl ⟨(g 0).1, ?_⟩
    rw [e26]
    refine if_le (b := 0) (by omega) (by decide) (fun w => ⟨rfl, Or.inl rfl, by omega, by omega, fun S9 h => absurd h.2 (by decide), fun _ => ⟨Or.inr (Or.inl ⟨rfl, ⟨n, hn, hpn, List.eq_nil_of_length_eq_zero (by omega)⟩, rfl⟩), by show 0 + 1 + 1 ≤ 3 + nc_i (∃ n d c, udA R p n d c ∧ roP (R.Q.G n) n (udL R n c).length) (dC1 R p.toNatClampNeg (uC R p.toNatClampNeg)); omega, by show 0 + 6 + 6 ≤ 18 + nc_i (∃ n d c, udA R p n d c ∧ roP (R.Q.G n) n (udL R n c).length) (dC2 R p.toNatClampNeg (uC R p.toNatClampNeg)); omega⟩⟩) (fun w => ⟨rfl, Or.inr rfl, by omega, by omega, fun S9 h => ?_, fun h => absurd h (by decide)⟩)
    obtain ⟨e9, -⟩ := h
    subst S9
    exact ⟨4000000000, n, (R.C n).length - 1, (R.C n)[(R.C n).length - 1]'(by omega), rfl, ⟨hn, hpn, by omega, List.getElem?_eq_getElem (by omega)⟩, by rw [hpn], rfl, rfl, rfl, rfl⟩
  · intro av S hpre pc I hI k lo st S1 cs sl h
    obtain ⟨rfl, hp⟩ := hpre
    have hm := look_in hI
    simp only [List.mem_cons, List.not_mem_nil, or_false] at hm
    rcases hm with hm | hm | hm | hm | hm | hm | hm | hm
    · cases hm
      obtain ⟨n, d, c, rfl, hX, rfl, rfl, rfl, rfl, rfl⟩ := h
      refine ⟨300, ?_⟩
      show (isO S 13 (Y n 0) ∧ (isO S 13 (Y n 0) ∧ (pa (mR S 1325 (Y n 0)) fun a_1 => ∃ v_2 : Int32, (isO S 17 a_1 ∧ inR S a_1 ((mI S 1326 (Y n 0)) - (1 : Int32)) ∧ v_2 = eI S a_1 ((mI S 1326 (Y n 0)) - (1 : Int32)).toNatClampNeg ∨ a_1 = (mQ S).1 ∧ vp_in ((mI S 1326 (Y n 0)) - (1 : Int32)) 16 ∧ v_2 = mRem ((mI S 1326 (Y n 0)) - (1 : Int32)).toNatClampNeg) ∧ (isO S 13 (Y n 0) ∧ (pa (mR S 1324 (Y n 0)) fun a_3 => ∃ v_4 : Int32, (isO S 17 a_3 ∧ inR S a_3 ((mI S 1326 (Y n 0)) - (1 : Int32)) ∧ v_4 = eI S a_3 ((mI S 1326 (Y n 0)) - (1 : Int32)).toNatClampNeg ∨ a_3 = (mQ S).1 ∧ vp_in ((mI S 1326 (Y n 0)) - (1 : Int32)) 16 ∧ v_4 = mRem ((mI S 1326 (Y n 0)) - (1 : Int32)).toNatClampNeg) ∧ (isO S 15 t ∧ (∃ k1, k1 < 4000000000 ∧ I_ud2 t p F z Y R kz S k1 [(0, .inr (.inr (some t))), (1, .inl (nI n)), (2, .inr (.inr (some (Y n 0)))), (3, .inl ((mI S 1326 (Y n 0)) - (1 : Int32))), (4, .inl v_2), (5, .inl v_4), (6, .inl (0 : Int32)), (7, .inr (.inr (mR S 1522 t))), (8, .inl (0 : Int32))] [] S 2 12)))))))
      obtain ⟨hM, hA, hU⟩ := hp
      obtain ⟨hn, hpn, hd, hcd⟩ := id hX
      have hRP := (hM 2 n hn).2
      have g := hRP.1
      have hnm := g.nm
      have hol := g.odl
      have e26 : mI S 1326 (Y n 0) = nI (R.C n).length := hRP.2.2.1
      have hc8 := hRP.2.2.2.1
      have r24 := g.rk (k := 24) (by decide) (by decide) (by decide)
      have r25 := g.rk (k := 25) (by decide) (by decide) (by decide)
      have ed : nI (R.C n).length - 1 = nI d := by rw [nI_sub1 (by omega)]; congr 1; omega
      have ec : (R.C n).getD d (false, 0, 0) = c := by rw [List.getD_eq_getElem?_getD, hcd]; rfl
      have cl := hRP.2.2.2.2 d (by omega)
      rw [ec] at cl
      rw [e26, ed]
      refine ⟨(g 0).1, (g 0).1, rdI (v := nI c.2.2) r25.1 r25.2.2.1 (inRn (N := 8192) r25.2.2.2 (by omega) (by decide)) (by rw [nI_clamp (by omega)]; exact cl.2.2) ⟨(g 0).1, rdI (v := nI c.2.1) r24.1 r24.2.2.1 (inRn (N := 8192) r24.2.2.2 (by omega) (by decide)) (by rw [nI_clamp (by omega)]; exact cl.2.1) ⟨(hM 0).1, ((R.Q.T n).od.length + 1 - 0) * 100000 + 90000, by omega, n, d, c, 0, 0, rfl, hX, Nat.zero_le _, rfl, ⟨⟨hM, fun _ _ => rfl, Keep.rf, rfl⟩, fun k hk => absurd hk (Nat.not_lt_zero k)⟩, by rw [(hM 1 22 (by decide)).1]; rfl, rfl, rfl, rfl⟩⟩⟩
    · cases hm
      obtain ⟨n, d, c, w, j, rfl, hX, hj, hw, hI, rfl, rfl, rfl, rfl⟩ := h
      refine ⟨300, ?_⟩
      show (isO S1 13 (Y n 0) ∧ (((mI S1 1302 (Y n 0)) ≤ (nI j) → (∃ k1, k1 < (((R.Q.T n).od.length + 1 - j) * 100000 + 90000) ∧ I_ud7 t p F z Y R kz S k1 [(0, .inr (.inr (some t))), (1, .inl (nI n)), (2, .inr (.inr (some (Y n 0)))), (3, .inl (nI d)), (6, .inl (nI w)), (7, .inr (.inr (some (z 22))))] [] S1 2 12)) ∧ (¬ (mI S1 1302 (Y n 0)) ≤ (nI j) → (∃ k1, k1 < (((R.Q.T n).od.length + 1 - j) * 100000 + 90000) ∧ I_ud3 t p F z Y R kz S k1 [(0, .inr (.inr (some t))), (1, .inl (nI n)), (2, .inr (.inr (some (Y n 0)))), (3, .inl (nI d)), (4, .inl (nI c.2.2)), (5, .inl (nI c.2.1)), (6, .inl (nI w)), (7, .inr (.inr (some (z 22)))), (8, .inl (nI j)), (9, .inl (0 : Int32)), (10, .inl (0 : Int32))] [] S1 2 12))))
      have hM := hI.1.1
      have hn := hX.1
      have g : RG S1 F (101 + n) (Y n) (R.Q.G n) (R.Q.T n) := (hM 2 n hn).2.1
      have hnm := g.nm
      have hol := g.odl
      have e1 : mI S1 1302 (Y n 0) = nI (R.Q.T n).od.length := (g 2).2.2
      rw [e1]
      refine ⟨(g 0).1, if_le (by omega) (by omega) (fun q => ?_) (fun q => ?_)⟩
      · have htk : (R.Q.T n).od.take j = (R.Q.T n).od := List.take_of_length_le q
        rw [htk] at hI hw
        exact ⟨20000, by omega, n, d, c, w, rfl, hX, hw, hI, rfl, rfl, rfl, rfl⟩
      · exact ⟨((R.Q.T n).od.length + 1 - j) * 100000 + (20001 + (8193 - 0) * 2), by omega, n, d, c, w, j, false, 0, rfl, hX, q, hw, Nat.zero_le _, rfl, hI, rfl, rfl, rfl, rfl⟩
    · cases hm
      obtain ⟨n, d, c, w, j, b, m, rfl, hX, hj, hw, hmc, hb, hI, rfl, rfl, rfl, rfl⟩ := h
      refine ⟨300, ?_⟩
      show (((nI c.2.2) ≤ (nI m) → (∃ k1, k1 < (((R.Q.T n).od.length + 1 - j) * 100000 + (20001 + (8193 - m) * 2)) ∧ I_ud5 t p F z Y R kz S k1 [(0, .inr (.inr (some t))), (1, .inl (nI n)), (2, .inr (.inr (some (Y n 0)))), (3, .inl (nI d)), (4, .inl (nI c.2.2)), (5, .inl (nI c.2.1)), (6, .inl (nI w)), (7, .inr (.inr (some (z 22)))), (8, .inl (nI j)), (9, .inl (bI b))] [] S1 2 12)) ∧ (¬ (nI c.2.2) ≤ (nI m) → ((¬ (bI b) = 0 → (∃ k1, k1 < (((R.Q.T n).od.length + 1 - j) * 100000 + (20001 + (8193 - m) * 2)) ∧ I_ud5 t p F z Y R kz S k1 [(0, .inr (.inr (some t))), (1, .inl (nI n)), (2, .inr (.inr (some (Y n 0)))), (3, .inl (nI d)), (4, .inl (nI c.2.2)), (5, .inl (nI c.2.1)), (6, .inl (nI w)), (7, .inr (.inr (some (z 22)))), (8, .inl (nI j)), (9, .inl (bI b))] [] S1 2 12)) ∧ ((bI b) = 0 → (0 = 0 ∧ (∃ (a_1 : Nat), nI n = nI a_1 ∧ (∃ (F_2 : Nat → Nat × Nat) (i_3 : Nat) (y_4 : Nat → Nat) (G_5 : Gr) (T_6 : Tr), ((Y n 0) = y_4 0 ∧ RG S1 F_2 i_3 y_4 G_5 T_6 ∧ a_1 < 256) ∧ 2 ≤ 3 + nc_i (∃ n d c, udA R p n d c ∧ roP (R.Q.G n) n (udL R n c).length) (dC1 R p.toNatClampNeg (uC R p.toNatClampNeg)) ∧ 12 ≤ 18 + nc_i (∃ n d c, udA R p n d c ∧ roP (R.Q.G n) n (udL R n c).length) (dC2 R p.toNatClampNeg (uC R p.toNatClampNeg)) ∧ ((isO S1 13 (Y n 0) ∧ (pa (mR S1 1323 (Y n 0)) fun a_8 => (isO S1 16 a_8 ∨ isO S1 20 a_8) ∧ inR S1 a_8 (nI d) ∧ (((eI S1 a_8 (nI d).toNatClampNeg) = 0 → (isO S1 13 (Y n 0) ∧ (pa (mR S1 1318 (Y n 0)) fun a_9 => ∃ v_10 : Int32, (isO S1 17 a_9 ∧ inR S1 a_9 (fnV G_5 a_1 ((nI c.2.1) + (nI m))) ∧ v_10 = eI S1 a_9 (fnV G_5 a_1 ((nI c.2.1) + (nI m))).toNatClampNeg ∨ a_9 = (mQ S1).1 ∧ vp_in (fnV G_5 a_1 ((nI c.2.1) + (nI m))) 16 ∧ v_10 = mRem (fnV G_5 a_1 ((nI c.2.1) + (nI m))).toNatClampNeg) ∧ (isO S1 13 (Y n 0) ∧ (pa (mR S1 1321 (Y n 0)) fun a_11 => ∃ v_12 : Int32, (isO S1 17 a_11 ∧ inR S1 a_11 (nI j) ∧ v_12 = eI S1 a_11 (nI j).toNatClampNeg ∨ a_11 = (mQ S1).1 ∧ vp_in (nI j) 16 ∧ v_12 = mRem (nI j).toNatClampNeg) ∧ ((¬ v_10 = v_12 → (∃ k1, k1 < (((R.Q.T n).od.length + 1 - j) * 100000 + (20001 + (8193 - m) * 2)) ∧ I_ud4 t p F z Y R kz S k1 [(0, .inr (.inr (some t))), (1, .inl (nI n)), (2, .inr (.inr (some (Y n 0)))), (3, .inl (nI d)), (4, .inl (nI c.2.2)), (5, .inl (nI c.2.1)), (6, .inl (nI w)), (7, .inr (.inr (some (z 22)))), (8, .inl (nI j)), (9, .inl (0 : Int32)), (10, .inl (nI m))] [] S1 2 12)) ∧ (v_10 = v_12 → (∃ k1, k1 < (((R.Q.T n).od.length + 1 - j) * 100000 + (20001 + (8193 - m) * 2)) ∧ I_ud4 t p F z Y R kz S k1 [(0, .inr (.inr (some t))), (1, .inl (nI n)), (2, .inr (.inr (some (Y n 0)))), (3, .inl (nI d)), (4, .inl (nI c.2.2)), (5, .inl (nI c.2.1)), (6, .inl (nI w)), (7, .inr (.inr (some (z 22)))), (8, .inl (nI j)), (9, .inl (1 : Int32)), (10, .inl (nI m))] [] S1 2 12)))))))) ∧ (¬ (eI S1 a_8 (nI d).toNatClampNeg) = 0 → (isO S1 13 (Y n 0) ∧ (pa (mR S1 1321 (Y n 0)) fun a_13 => ∃ v_14 : Int32, (isO S1 17 a_13 ∧ inR S1 a_13 (nI j) ∧ v_14 = eI S1 a_13 (nI j).toNatClampNeg ∨ a_13 = (mQ S1).1 ∧ vp_in (nI j) 16 ∧ v_14 = mRem (nI j).toNatClampNeg) ∧ ((¬ (fnV G_5 a_1 ((nI c.2.1) + (nI m))) = v_14 → (∃ k1, k1 < (((R.Q.T n).od.length + 1 - j) * 100000 + (20001 + (8193 - m) * 2)) ∧ I_ud4 t p F z Y R kz S k1 [(0, .inr (.inr (some t))), (1, .inl (nI n)), (2, .inr (.inr (some (Y n 0)))), (3, .inl (nI d)), (4, .inl (nI c.2.2)), (5, .inl (nI c.2.1)), (6, .inl (nI w)), (7, .inr (.inr (some (z 22)))), (8, .inl (nI j)), (9, .inl (0 : Int32)), (10, .inl (nI m))] [] S1 2 12)) ∧ ((fnV G_5 a_1 ((nI c.2.1) + (nI m))) = v_14 → (0 = 0 ∧ (∃ (k1_15 : Nat), fnV G_5 a_1 ((nI c.2.1) + (nI m)) = nI k1_15 ∧ (∃ (F_16 : Nat → Nat × Nat) (i_17 : Nat) (y_18 : Nat → Nat) (G_19 : Gr) (T_20 : Tr), ((Y n 0) = y_18 0 ∧ RG S1 F_16 i_17 y_18 G_19 T_20 ∧ k1_15 < G_19.n) ∧ 2 ≤ 3 + nc_i (∃ n d c, udA R p n d c ∧ roP (R.Q.G n) n (udL R n c).length) (dC1 R p.toNatClampNeg (uC R p.toNatClampNeg)) ∧ 12 ≤ 18 + nc_i (∃ n d c, udA R p n d c ∧ roP (R.Q.G n) n (udL R n c).length) (dC2 R p.toNatClampNeg (uC R p.toNatClampNeg)) ∧ ((((bI (vis G_19 (k1_15 + 1))) = 0 → (∃ k1, k1 < (((R.Q.T n).od.length + 1 - j) * 100000 + (20001 + (8193 - m) * 2)) ∧ I_ud4 t p F z Y R kz S k1 [(0, .inr (.inr (some t))), (1, .inl (nI n)), (2, .inr (.inr (some (Y n 0)))), (3, .inl (nI d)), (4, .inl (nI c.2.2)), (5, .inl (nI c.2.1)), (6, .inl (nI w)), (7, .inr (.inr (some (z 22)))), (8, .inl (nI j)), (9, .inl (0 : Int32)), (10, .inl (nI m))] [] S1 2 12)) ∧ (¬ (bI (vis G_19 (k1_15 + 1))) = 0 → (∃ k1, k1 < (((R.Q.T n).od.length + 1 - j) * 100000 + (20001 + (8193 - m) * 2)) ∧ I_ud4 t p F z Y R kz S k1 [(0, .inr (.inr (some t))), (1, .inl (nI n)), (2, .inr (.inr (some (Y n 0)))), (3, .inl (nI d)), (4, .inl (nI c.2.2)), (5, .inl (nI c.2.1)), (6, .inl (nI w)), (7, .inr (.inr (some (z 22)))), (8, .inl (nI j)), (9, .inl (1 : Int32)), (10, .inl (nI m))] [] S1 2 12)))))))))))))))))))))))
      obtain ⟨hM0, hA, hU⟩ := hp
      have hM := hI.1.1
      obtain ⟨hn, hpn, hd, hcd⟩ := id hX
      have hRP := (hM 2 n hn).2
      have g : RG S1 F (101 + n) (Y n) (R.Q.G n) (R.Q.T n) := hRP.1
      have hnm := g.nm
      have hol := g.odl
      have hGT := (hA n hn).1
      have hcm : c ∈ R.C n := List.mem_of_getElem? hcd
      obtain ⟨hu1, hu2⟩ := hU n hn c hcm
      have ha8 := agE_8192 g.ok n
      have hc8 := hRP.2.2.2.1
      have ec : (R.C n).getD d (false, 0, 0) = c := by rw [List.getD_eq_getElem?_getD, hcd]; rfl
      have cl := hRP.2.2.2.2 d (by omega)
      rw [ec] at cl
      obtain ⟨x9, hx, hxn, hxc, hxo⟩ := g.odn hj
      have k1 : 2 ≤ 3 + nc_i (∃ n d c, udA R p n d c ∧ roP (R.Q.G n) n (udL R n c).length) (dC1 R p.toNatClampNeg (uC R p.toNatClampNeg)) := by omega
      have k2 : 12 ≤ 18 + nc_i (∃ n d c, udA R p n d c ∧ roP (R.Q.G n) n (udL R n c).length) (dC2 R p.toNatClampNeg (uC R p.toNatClampNeg)) := by omega
      have go5 : b = uA (R.Q.G n) n c ((R.Q.T n).od.getD j 0) c.2.2 → ∃ k1, k1 < ((R.Q.T n).od.length + 1 - j) * 100000 + (20001 + (8193 - m) * 2) ∧ I_ud5 t p F z Y R kz S k1 [(0, .inr (.inr (some t))), (1, .inl (nI n)), (2, .inr (.inr (some (Y n 0)))), (3, .inl (nI d)), (4, .inl (nI c.2.2)), (5, .inl (nI c.2.1)), (6, .inl (nI w)), (7, .inr (.inr (some (z 22)))), (8, .inl (nI j)), (9, .inl (bI b))] [] S1 2 12 := fun h9 => ⟨((R.Q.T n).od.length + 1 - j) * 100000 + 10, Nat.add_lt_add_left (Nat.lt_of_lt_of_le (by decide) (Nat.le_add_right 20001 _)) _, n, d, c, w, j, b, rfl, hX, hj, hw, h9, hI, rfl, rfl, rfl, rfl⟩
      refine if_le (by omega) (by omega) (fun q => go5 ?_) (fun q => ⟨fun q2 => go5 ?_, fun q2 => ?_⟩)
      · rw [hb, show m = c.2.2 by omega]
      · rw [bI_0, Bool.not_eq_false] at q2
        rw [q2]
        exact (uA_mono (hb.symm.trans q2) hmc).symm
      · rw [bI_0] at q2
        have hbF : uA (R.Q.G n) n c (x9 + 1) m = false := by rw [← hx, ← hb]; exact q2
        have hlt : c.2.1 + m < (agE (R.Q.G n) n).length := by omega
        have hef : fnV (R.Q.G n) n (nI c.2.1 + nI m) = nI (uE (R.Q.G n) n c m) := by
          rw [nI_add, fnV, if_neg (nI_pos (by omega)), nI_clamp (by omega), uE, List.getD_eq_getElem?_getD, List.getElem?_eq_getElem hlt]
          rfl
        have hen : uE (R.Q.G n) n c m < (R.Q.G n).n := by
          refine agE_n g.ok (a := n) ?_
          rw [uE, List.getD_eq_getElem?_getD, List.getElem?_eq_getElem hlt]
          exact List.getElem_mem hlt
        have go4 : ∀ b9 : Bool, b9 = uH (R.Q.G n) n c (x9 + 1) m → ∃ k1, k1 < ((R.Q.T n).od.length + 1 - j) * 100000 + (20001 + (8193 - m) * 2) ∧ I_ud4 t p F z Y R kz S k1 [(0, .inr (.inr (some t))), (1, .inl (nI n)), (2, .inr (.inr (some (Y n 0)))), (3, .inl (nI d)), (4, .inl (nI c.2.2)), (5, .inl (nI c.2.1)), (6, .inl (nI w)), (7, .inr (.inr (some (z 22)))), (8, .inl (nI j)), (9, .inl (bI b9)), (10, .inl (nI m))] [] S1 2 12 := fun b9 h9 => ⟨((R.Q.T n).od.length + 1 - j) * 100000 + (20000 + (8193 - m) * 2), by omega, n, d, c, w, j, b9, m, rfl, hX, hj, hw, q, by rw [h9, hx, uA, hbF, Bool.false_or], hI, rfl, rfl, rfl, rfl⟩
        have r23 := g.rk (k := 23) (by decide) (by decide) (by decide)
        have r18 := g.rk (k := 18) (by decide) (by decide) (by decide)
        have e23 : eI S1 (Y n 23) (nI d).toNatClampNeg = bI c.1 := by rw [nI_clamp (by omega)]; exact cl.1
        have xv : (R.Q.T n).od.getD j 0 - 1 = x9 := by rw [hx, Nat.add_sub_cancel]
        refine ⟨rfl, n, rfl, F, 101 + n, Y n, R.Q.G n, R.Q.T n, ⟨rfl, g, by omega⟩, k1, k2, (g 0).1, pa_i r23.1 ⟨Or.inr r23.2.2.1, inRn (N := 8192) r23.2.2.2 (by omega) (by decide), ?_⟩⟩
        rw [e23, hef]
        refine ⟨fun q3 => ?_, fun q3 => ?_⟩
        · rw [bI_0] at q3
          have hch := hu2 q3 m q
          have htg := (hGT.2.1 _ hen).2 hch
          refine ⟨(g 0).1, rdI (v := nI ((R.Q.G n).ev (uE (R.Q.G n) n c m)).tg) r18.1 r18.2.2.1 (inRn (N := 8192) r18.2.2.2 (by omega) (by decide)) (by rw [nI_clamp (by omega)]; exact ((g 6 _ hen).2 hch (by omega)).2) ⟨(g 0).1, g.g21 hj ?_⟩⟩
          rw [xv]
          refine if_ne (by omega) (by omega) (fun q4 => go4 false ?_) (fun q4 => go4 true ?_)
          · rw [uH, if_neg (by rw [q3]; decide)]
            exact (decide_eq_false (by omega)).symm
          · rw [uH, if_neg (by rw [q3]; decide)]
            exact (decide_eq_true (by omega)).symm
        · rw [bI_0, Bool.not_eq_false] at q3
          refine ⟨(g 0).1, g.g21 hj ?_⟩
          rw [xv]
          refine if_ne (by omega) (by omega) (fun q4 => go4 false ?_) (fun q4 => ⟨rfl, _, rfl, F, 101 + n, Y n, R.Q.G n, R.Q.T n, ⟨rfl, g, hen⟩, k1, k2, fun q5 => go4 false ?_, fun q5 => go4 true ?_⟩)
          · rw [uH, if_pos q3, decide_eq_false (by omega)]; rfl
          · rw [bI_0, q4] at q5
            rw [uH, if_pos q3, q5, Bool.and_false]
          · rw [bI_0, Bool.not_eq_false, q4] at q5
            rw [uH, if_pos q3, q5, decide_eq_true (by omega)]; rfl
    · cases hm
      obtain ⟨n, d, c, w, j, b, m, rfl, hX, hj, hw, hmc, hb, hI, rfl, rfl, rfl, rfl⟩ := h
      refine ⟨300, ?_⟩
      show (∃ k1, k1 < (((R.Q.T n).od.length + 1 - j) * 100000 + (20000 + (8193 - m) * 2)) ∧ I_ud3 t p F z Y R kz S k1 [(0, .inr (.inr (some t))), (1, .inl (nI n)), (2, .inr (.inr (some (Y n 0)))), (3, .inl (nI d)), (4, .inl (nI c.2.2)), (5, .inl (nI c.2.1)), (6, .inl (nI w)), (7, .inr (.inr (some (z 22)))), (8, .inl (nI j)), (9, .inl (bI b)), (10, .inl ((nI m) + (1 : Int32)))] [] S1 2 12)
      have hM := hI.1.1
      obtain ⟨hM0, hA, hU⟩ := hp
      obtain ⟨hn, hpn, hd, hcd⟩ := id hX
      have g : RG S1 F (101 + n) (Y n) (R.Q.G n) (R.Q.T n) := (hM 2 n hn).2.1
      have ha8 := agE_8192 g.ok n
      have hu1 := (hU n hn c (List.mem_of_getElem? hcd)).1
      rw [nI_1]
      exact ⟨((R.Q.T n).od.length + 1 - j) * 100000 + (20001 + (8193 - (m + 1)) * 2), by omega, n, d, c, w, j, b, m + 1, rfl, hX, hj, hw, hmc, hb, hI, rfl, rfl, rfl, rfl⟩
    · cases hm
      obtain ⟨n, d, c, w, j, b, rfl, hX, hj, hw, hb, hI, rfl, rfl, rfl, rfl⟩ := h
      refine ⟨300, ?_⟩
      show ((¬ (bI b) = 0 → (isO S1 13 (Y n 0) ∧ (pa (mR S1 1321 (Y n 0)) fun a_1 => ∃ v_2 : Int32, (isO S1 17 a_1 ∧ inR S1 a_1 (nI j) ∧ v_2 = eI S1 a_1 (nI j).toNatClampNeg ∨ a_1 = (mQ S1).1 ∧ vp_in (nI j) 16 ∧ v_2 = mRem (nI j).toNatClampNeg) ∧ (isO S1 17 (z 22) ∧ inR S1 (z 22) (nI w) ∧ (∃ k1, k1 < (((R.Q.T n).od.length + 1 - j) * 100000 + 10) ∧ I_ud6 t p F z Y R kz S k1 [(0, .inr (.inr (some t))), (1, .inl (nI n)), (2, .inr (.inr (some (Y n 0)))), (3, .inl (nI d)), (4, .inl (nI c.2.2)), (5, .inl (nI c.2.1)), (6, .inl ((nI w) + (1 : Int32))), (7, .inr (.inr (some (z 22)))), (8, .inl (nI j))] [] (rI S1 (z 22) (upd (eI S1 (z 22)) (nI w).toNatClampNeg v_2)) 2 12))))) ∧ ((bI b) = 0 → (∃ k1, k1 < (((R.Q.T n).od.length + 1 - j) * 100000 + 10) ∧ I_ud6 t p F z Y R kz S k1 [(0, .inr (.inr (some t))), (1, .inl (nI n)), (2, .inr (.inr (some (Y n 0)))), (3, .inl (nI d)), (4, .inl (nI c.2.2)), (5, .inl (nI c.2.1)), (6, .inl (nI w)), (7, .inr (.inr (some (z 22)))), (8, .inl (nI j))] [] S1 2 12)))
      have hM := hI.1.1
      have hn := hX.1
      have g : RG S1 F (101 + n) (Y n) (R.Q.G n) (R.Q.T n) := (hM 2 n hn).2.1
      have hnm := g.nm
      have hol := g.odl
      have r22 := hM 1 22 (by decide)
      have hs9 := uL_s (G := R.Q.G n) (n := n) (c := c) hj
      have hvl : (uL (R.Q.G n) n c ((R.Q.T n).od.take j)).length ≤ j := Nat.le_trans uL_l (by rw [List.length_take]; omega)
      refine ⟨fun q => ?_, fun q => ?_⟩
      · rw [bI_0, Bool.not_eq_false] at q
        rw [if_pos (hb.symm.trans q)] at hs9
        refine ⟨(g 0).1, g.g21 hj ⟨r22.2.2.1, inRn (N := 8192) r22.2.2.2 (by omega) (by decide), ((R.Q.T n).od.length + 1 - j) * 100000 + 5, by omega, n, d, c, w + 1, j, rfl, hX, hj, by rw [hs9, List.length_append, hw]; rfl, ?_, by rw [nI_1], rfl, rfl, rfl⟩⟩
        rw [hs9, nI_clamp (by omega), hw]
        exact hI.wr _
      · rw [bI_0] at q
        rw [if_neg (by rw [← hb, q]; decide), List.append_nil] at hs9
        exact ⟨((R.Q.T n).od.length + 1 - j) * 100000 + 5, by omega, n, d, c, w, j, rfl, hX, hj, by rw [hs9]; exact hw, by rw [hs9]; exact hI, rfl, rfl, rfl, rfl⟩
    · cases hm
      obtain ⟨n, d, c, w, j, rfl, hX, hj, hw, hI, rfl, rfl, rfl, rfl⟩ := h
      refine ⟨300, ?_⟩
      show (∃ k1, k1 < (((R.Q.T n).od.length + 1 - j) * 100000 + 5) ∧ I_ud2 t p F z Y R kz S k1 [(0, .inr (.inr (some t))), (1, .inl (nI n)), (2, .inr (.inr (some (Y n 0)))), (3, .inl (nI d)), (4, .inl (nI c.2.2)), (5, .inl (nI c.2.1)), (6, .inl (nI w)), (7, .inr (.inr (some (z 22)))), (8, .inl ((nI j) + (1 : Int32)))] [] S1 2 12)
      rw [nI_1]
      exact ⟨((R.Q.T n).od.length + 1 - (j + 1)) * 100000 + 90000, by omega, n, d, c, w, j + 1, rfl, hX, hj, hw, hI, rfl, rfl, rfl, rfl⟩
    · cases hm
      obtain ⟨n, d, c, w, rfl, hX, rfl, hI, rfl, rfl, rfl, rfl⟩ := h
      refine ⟨300, ?_⟩
      show (0 = 0 ∧ (∃ (a_1 : Nat), nI n = nI a_1 ∧ (∃ (n_2 : Nat), nI (udL R n c).length = nI n_2 ∧ (∃ (F_3 : Nat → Nat × Nat) (i_4 : Nat) (y_5 : Nat → Nat) (G_6 : Gr) (T_7 : Tr), (isO S1 15 t ∧ (Y n 0) = y_5 0 ∧ RG S1 F_3 i_4 y_5 G_6 T_7 ∧ a_1 < 256 ∧ n_2 ≤ 100000) ∧ 2 + 1 ≤ 3 + nc_i (∃ n d c, udA R p n d c ∧ roP (R.Q.G n) n (udL R n c).length) (dC1 R p.toNatClampNeg (uC R p.toNatClampNeg)) ∧ 12 + 6 ≤ 18 + nc_i (∃ n d c, udA R p n d c ∧ roP (R.Q.G n) n (udL R n c).length) (dC2 R p.toNatClampNeg (uC R p.toNatClampNeg)) ∧ ((∀ (S_8 : MM), (S_8 = S1 ∧ (n_2 = 0 ∨ G_6.n + n_2 ≤ 8192 ∧ (hasAg G_6 a_1 ∨ G_6.m < 16))) → (isO S_8 13 (Y n 0) ∧ (True ∧ (isO S_8 13 (Y n 0) ∧ (∃ k1, k1 < 20000 ∧ I_ud8 t p F z Y R kz S k1 [(0, .inr (.inr (some t))), (1, .inl (nI n)), (2, .inr (.inr (some (Y n 0)))), (3, .inl (nI d)), (6, .inl (nI (udL R n c).length)), (7, .inr (.inr (some (z 22)))), (8, .inl (0 : Int32))] [] (sI S_8 1326 (Y n 0) ((mI S_8 1326 (Y n 0)) - (1 : Int32))) (2 + 1) (12 + 6)))))) ∧ ((n_2 ≠ 0 ∧ (8192 < G_6.n + n_2 ∨ ¬ hasAg G_6 a_1 ∧ G_6.m = 16)) → mthr (sp_run02 t p F z Y R kz) [.inr (.inr (some t)), .inl p] S 0 S1 (2 + 1) (12 + 6)))))))
      obtain ⟨hM0, hA, hU⟩ := hp
      obtain ⟨hn, hpn, hd, hcd⟩ := id hX
      have hM := hI.1.1
      have hRP := (hM 2 n hn).2
      have g : RG S1 F (101 + n) (Y n) (R.Q.G n) (R.Q.T n) := hRP.1
      have hnm := g.nm
      have hol := g.odl
      have hwl : (udL R n c).length ≤ (R.Q.T n).od.length := uL_l
      have hc8 := hRP.2.2.2.1
      have ec : (R.C n).getD d (false, 0, 0) = c := by rw [List.getD_eq_getElem?_getD, hcd]; rfl
      have cl := hRP.2.2.2.2 d (by omega)
      rw [ec] at cl
      refine ⟨rfl, n, rfl, (udL R n c).length, rfl, F, 101 + n, Y n, R.Q.G n, R.Q.T n, ⟨(hM 0).1, rfl, g, by omega, by omega⟩, by omega, by omega, fun S8 h => ?_, fun h => ⟨Or.inr (Or.inr ⟨rfl, n, d, c, hX, fun r => ?_, F, z, Y, hI.1⟩), by show 2 + 1 ≤ 3 + nc_i (∃ n d c, udA R p n d c ∧ roP (R.Q.G n) n (udL R n c).length) (dC1 R p.toNatClampNeg (uC R p.toNatClampNeg)); omega, by show 12 + 6 ≤ 18 + nc_i (∃ n d c, udA R p n d c ∧ roP (R.Q.G n) n (udL R n c).length) (dC2 R p.toNatClampNeg (uC R p.toNatClampNeg)); omega⟩⟩
      · obtain ⟨e8, hro⟩ := h
        subst S8
        have e26 : mI S1 1326 (Y n 0) = nI (R.C n).length := hRP.2.2.1
        rw [e26, nI_sub1 (by omega)]
        have hN := hRP.un
        have kp : Keep (fun c => (F c).1 = 101 + n) S1 (sI S1 1326 (Y n 0) (nI ((R.C n).length - 1))) := Keep.sI (P := fun c => (F c).1 = 101 + n) Keep.rf (by show (F (Y n 0)).1 = 101 + n; rw [(g 0).2])
        have hMD := hM.gp hn kp hN rfl (fun _ _ => rfl) (fun b hb => (kp.1 b (hM 12 b hb)).1) (fun s => Nat.le_refl _) (fun x hx => hx)
        rw [upY_own] at hMD
        have nt : t ≠ Y n 0 := fun e => by
          have := (hM 0).2
          rw [e, (g 0).2] at this
          injection this with this _
          omega
        refine ⟨(g 0).1, trivial, (g 0).1, (udL R n c).length - 0, by omega, n, d, c, (udL R n c).length, 0, F, Y, R.Q.G n, R.Q.T n, rfl, hX, Nat.zero_le _, rfl, hro, ⟨?_, hI.1.2.tr ⟨fun _ _ => rfl, kp.mono (fun b _ q => ?_), by rw [mI_sI, if_neg (fun e => nt e.2)]⟩, fun _ _ => rfl, ⟨cl.1, hI.2⟩, ⟨rfl, rfl⟩, (hA n hn).1, fun hne => owN_ok (hro.resolve_left hne).2, rfl, rfl, fun x hx => ⟨(List.mem_filter.1 hx).1, rfl⟩, fun hc k hk => ?_⟩, rfl, rfl, rfl, rfl⟩
        · have e2 : (uQ R n).sG n (R.Q.G n) (R.Q.T n) = uQ R n := sP_sG R n _ _ _ _ _ _
          rw [e2]; exact hMD
        · have q : (F b).1 = 101 + n := q
          show 100 ≤ (F b).1
          omega
        · have hkl : k < (udL R n c).length := by omega
          have hm9 : (udL R n c).getD k 0 ∈ udL R n c := by
            rw [List.getD_eq_getElem?_getD, List.getElem?_eq_getElem hkl]
            exact List.getElem_mem hkl
          exact uA_vis hc (List.mem_filter.1 hm9).2
      · rcases r with r | r
        · omega
        · rcases h.2 with q | q
          · omega
          · rcases r.2 with w | w
            · exact q.1 w
            · omega
    · cases hm
      obtain ⟨n, d, c, w, j, F1, Y1, G1, T1, rfl, hX, hjw, hw, hro, hU1, rfl, rfl, rfl, rfl⟩ := h
      refine ⟨300, ?_⟩
      show (((nI w) ≤ (nI j) → (([] : List MV) = [] ∧ mret (some .int) (sp_run02 t p F z Y R kz) [.inr (.inr (some t)), .inl p] S (some (.inl (nI w))) S1 (3 + dC1 R n j) (18 + dC2 R n j))) ∧ (¬ (nI w) ≤ (nI j) → (isO S1 13 (Y n 0) ∧ (pa (mR S1 1323 (Y n 0)) fun a_1 => (isO S1 16 a_1 ∨ isO S1 20 a_1) ∧ inR S1 a_1 (nI d) ∧ (((eI S1 a_1 (nI d).toNatClampNeg) = 0 → (∃ v_2 : Int32, (isO S1 17 (z 22) ∧ inR S1 (z 22) (nI j) ∧ v_2 = eI S1 (z 22) (nI j).toNatClampNeg ∨ (z 22) = (mQ S1).1 ∧ vp_in (nI j) 16 ∧ v_2 = mRem (nI j).toNatClampNeg) ∧ (0 = 0 ∧ (∃ (nd_3 : Nat), v_2 = nI nd_3 ∧ (∃ (F_4 : Nat → Nat × Nat) (i_5 : Nat) (y_6 : Nat → Nat) (G_7 : Gr) (T_8 : Tr) (pz_9 : Nat), ((Y n 0) = y_6 0 ∧ RG S1 F_4 i_5 y_6 G_7 T_8 ∧ pz_9 < T_8.od.length ∧ T_8.od.getD pz_9 0 = nd_3 + 1) ∧ (3 + dC1 R n j) ≤ 3 + nc_i (∃ n d c, udA R p n d c ∧ roP (R.Q.G n) n (udL R n c).length) (dC1 R p.toNatClampNeg (uC R p.toNatClampNeg)) ∧ (18 + dC2 R n j) ≤ 18 + nc_i (∃ n d c, udA R p n d c ∧ roP (R.Q.G n) n (udL R n c).length) (dC2 R p.toNatClampNeg (uC R p.toNatClampNeg)) ∧ ((0 = 0 ∧ (∃ (p_11 : Nat), nI n = nI p_11 ∧ (∃ (F_12 : Nat → Nat × Nat) (z_13 : Nat → Nat) (Y_14 : Nat → Nat → Nat) (R_15 : Rb) (kz_16 : Nat → Nat) (s_17 : Nat) (pr_18 : List Nat), (MD S1 F_12 t z_13 Y_14 R_15 kz_16 ∧ p_11 < 4 ∧ raP (R_15.Q.G p_11) (R_15.Q.T p_11) p_11 s_17 (R_15.Q.G p_11).cn pr_18) ∧ 3 + dC1 R n j + (ad1 (R_15.Q.G p_11) s_17) ≤ 3 + nc_i (∃ n d c, udA R p n d c ∧ roP (R.Q.G n) n (udL R n c).length) (dC1 R p.toNatClampNeg (uC R p.toNatClampNeg)) ∧ 18 + dC2 R n j + (ad2 (R_15.Q.G p_11) s_17) ≤ 18 + nc_i (∃ n d c, udA R p n d c ∧ roP (R.Q.G n) n (udL R n c).length) (dC2 R p.toNatClampNeg (uC R p.toNatClampNeg)) ∧ (∀ (x_20 : Int32) (S_19 : MM), (x_20 = nI (R_15.Q.G p_11).n) ∧ (ownS S1 S_19 F_12 t z_13 Y_14 (R_15.sG p_11 (pGr (eGr (R_15.Q.G p_11) s_17 p_11) s_17 (R_15.Q.G p_11).cn pr_18) (R_15.Q.T p_11)) kz_16 p_11) → (isO S_19 13 (Y n 0) ∧ (∃ v_21 : Int32, (isO S_19 17 (z 22) ∧ inR S_19 (z 22) (nI j) ∧ v_21 = eI S_19 (z 22) (nI j).toNatClampNeg ∨ (z 22) = (mQ S_19).1 ∧ vp_in (nI j) 16 ∧ v_21 = mRem (nI j).toNatClampNeg) ∧ (pa (mR S_19 1311 (Y n 0)) fun a_22 => ∃ v_23 : Int32, (isO S_19 17 a_22 ∧ inR S_19 a_22 v_21 ∧ v_23 = eI S_19 a_22 v_21.toNatClampNeg ∨ a_22 = (mQ S_19).1 ∧ vp_in v_21 16 ∧ v_23 = mRem v_21.toNatClampNeg) ∧ (0 = 0 ∧ (∃ (e_24 : Nat), x_20 = nI e_24 ∧ (∃ (ix_25 : Nat), nI ((T_8.od.take pz_9).filter (vis G_7)).length = nI ix_25 ∧ (∃ (c_26 : Nat), v_23 = nI c_26 ∧ (∃ (F_27 : Nat → Nat × Nat) (i_28 : Nat) (y_29 : Nat → Nat) (G_30 : Gr) (T_31 : Tr), ((Y n 0) = y_29 0 ∧ RG S_19 F_27 i_28 y_29 G_30 T_31 ∧ e_24 + 1 = G_30.n ∧ (G_30.ev e_24).ch = none ∧ (G_30.ev e_24).tg = 8192 ∧ e_24 + 1 ∉ T_31.od ∧ T_31.ok ∧ ix_25 ≤ (T_31.od.filter (snW G_30 (G_30.ev e_24).pa)).length ∧ c_26 < 2000000) ∧ 3 + dC1 R n j + (ad1 (R_15.Q.G p_11) s_17) ≤ 3 + nc_i (∃ n d c, udA R p n d c ∧ roP (R.Q.G n) n (udL R n c).length) (dC1 R p.toNatClampNeg (uC R p.toNatClampNeg)) ∧ 18 + dC2 R n j + (ad2 (R_15.Q.G p_11) s_17) ≤ 18 + nc_i (∃ n d c, udA R p n d c ∧ roP (R.Q.G n) n (udL R n c).length) (dC2 R p.toNatClampNeg (uC R p.toNatClampNeg)) ∧ (∀ (S_32 : MM), (inQ2 S_19 S_32 F_27 i_28 y_29 G_30 T_31 e_24 ix_25 c_26) → (∃ k1, k1 < (w - j) ∧ I_ud8 t p F z Y R kz S k1 [(0, .inr (.inr (some t))), (1, .inl (nI n)), (2, .inr (.inr (some (Y n 0)))), (3, .inl (nI d)), (6, .inl (nI w)), (7, .inr (.inr (some (z 22)))), (8, .inl ((nI j) + (1 : Int32)))] [] S_32 (3 + dC1 R n j + (ad1 (R_15.Q.G p_11) s_17)) (18 + dC2 R n j + (ad2 (R_15.Q.G p_11) s_17)))))))))))))))))))))) ∧ (¬ (eI S1 a_1 (nI d).toNatClampNeg) = 0 → (∃ v_33 : Int32, (isO S1 17 (z 22) ∧ inR S1 (z 22) (((nI w) - (1 : Int32)) - (nI j)) ∧ v_33 = eI S1 (z 22) (((nI w) - (1 : Int32)) - (nI j)).toNatClampNeg ∨ (z 22) = (mQ S1).1 ∧ vp_in (((nI w) - (1 : Int32)) - (nI j)) 16 ∧ v_33 = mRem (((nI w) - (1 : Int32)) - (nI j)).toNatClampNeg) ∧ (0 = 0 ∧ (∃ (nd_34 : Nat), v_33 = nI nd_34 ∧ (∃ (F_35 : Nat → Nat × Nat) (i_36 : Nat) (y_37 : Nat → Nat) (G_38 : Gr) (T_39 : Tr) (pz_40 : Nat), ((Y n 0) = y_37 0 ∧ RG S1 F_35 i_36 y_37 G_38 T_39 ∧ pz_40 < T_39.od.length ∧ T_39.od.getD pz_40 0 = nd_34 + 1) ∧ (3 + dC1 R n j) ≤ 3 + nc_i (∃ n d c, udA R p n d c ∧ roP (R.Q.G n) n (udL R n c).length) (dC1 R p.toNatClampNeg (uC R p.toNatClampNeg)) ∧ (18 + dC2 R n j) ≤ 18 + nc_i (∃ n d c, udA R p n d c ∧ roP (R.Q.G n) n (udL R n c).length) (dC2 R p.toNatClampNeg (uC R p.toNatClampNeg)) ∧ ((0 = 0 ∧ (∃ (p_42 : Nat), nI n = nI p_42 ∧ (∃ (F_43 : Nat → Nat × Nat) (z_44 : Nat → Nat) (Y_45 : Nat → Nat → Nat) (R_46 : Rb) (kz_47 : Nat → Nat) (s_48 : Nat) (pr_49 : List Nat), (MD S1 F_43 t z_44 Y_45 R_46 kz_47 ∧ p_42 < 4 ∧ raP (R_46.Q.G p_42) (R_46.Q.T p_42) p_42 s_48 (R_46.Q.G p_42).cn pr_49) ∧ 3 + dC1 R n j + (ad1 (R_46.Q.G p_42) s_48) ≤ 3 + nc_i (∃ n d c, udA R p n d c ∧ roP (R.Q.G n) n (udL R n c).length) (dC1 R p.toNatClampNeg (uC R p.toNatClampNeg)) ∧ 18 + dC2 R n j + (ad2 (R_46.Q.G p_42) s_48) ≤ 18 + nc_i (∃ n d c, udA R p n d c ∧ roP (R.Q.G n) n (udL R n c).length) (dC2 R p.toNatClampNeg (uC R p.toNatClampNeg)) ∧ (∀ (x_51 : Int32) (S_50 : MM), (x_51 = nI (R_46.Q.G p_42).n) ∧ (ownS S1 S_50 F_43 t z_44 Y_45 (R_46.sG p_42 (pGr (eGr (R_46.Q.G p_42) s_48 p_42) s_48 (R_46.Q.G p_42).cn pr_49) (R_46.Q.T p_42)) kz_47 p_42) → (0 = 0 ∧ (∃ (e_52 : Nat), x_51 = nI e_52 ∧ (∃ (ix_53 : Nat), nI ((T_39.od.take pz_40).filter (vis G_38)).length = nI ix_53 ∧ (∃ (F_54 : Nat → Nat × Nat) (i_55 : Nat) (y_56 : Nat → Nat) (G_57 : Gr) (T_58 : Tr), ((Y n 0) = y_56 0 ∧ RG S_50 F_54 i_55 y_56 G_57 T_58 ∧ e_52 + 1 = G_57.n ∧ (G_57.ev e_52).ch = none ∧ (G_57.ev e_52).tg = 8192 ∧ ix_53 < (T_58.od.filter (snW G_57 (G_57.ev e_52).pa)).length) ∧ 3 + dC1 R n j + (ad1 (R_46.Q.G p_42) s_48) ≤ 3 + nc_i (∃ n d c, udA R p n d c ∧ roP (R.Q.G n) n (udL R n c).length) (dC1 R p.toNatClampNeg (uC R p.toNatClampNeg)) ∧ 18 + dC2 R n j + (ad2 (R_46.Q.G p_42) s_48) ≤ 18 + nc_i (∃ n d c, udA R p n d c ∧ roP (R.Q.G n) n (udL R n c).length) (dC2 R p.toNatClampNeg (uC R p.toNatClampNeg)) ∧ (∀ (S_59 : MM), (∃ j t, atP T_58.od (snW G_57 (G_57.ev e_52).pa) ix_53 j ∧ T_58.od.getD j 0 = t + 1 ∧ RG S_59 F_54 i_55 y_56 (G_57.setD e_52 ix_53 t) T_58 ∧ Keep (gO F_54 i_55) S_50 S_59 ∧ mI S_59 1326 (y_56 0) = mI S_50 1326 (y_56 0)) → (∃ k1, k1 < (w - j) ∧ I_ud8 t p F z Y R kz S k1 [(0, .inr (.inr (some t))), (1, .inl (nI n)), (2, .inr (.inr (some (Y n 0)))), (3, .inl (nI d)), (6, .inl (nI w)), (7, .inr (.inr (some (z 22)))), (8, .inl ((nI j) + (1 : Int32)))] [] S_59 (3 + dC1 R n j + (ad1 (R_46.Q.G p_42) s_48)) (18 + dC2 R n j + (ad2 (R_46.Q.G p_42) s_48)))))))))))))))))))))))
      obtain ⟨hM0, hA, hU⟩ := hp
      obtain ⟨hn, hpn, hd, hcd⟩ := id hX
      obtain ⟨h1, hF, hy, ⟨h23, h22⟩, hRu, hGT, hOw, hGn, hGc, hxs, hvs⟩ := hU1
      have g0 := (hM0 2 n hn).2.1
      have hnm := g0.nm
      have hol := g0.odl
      have hwl : (udL R n c).length ≤ (R.Q.T n).od.length := uL_l
      have hc8 := (hM0 2 n hn).2.2.2.2.1
      have cp : p.toNatClampNeg = n := by rw [hpn]; exact nI_clamp (by omega)
      have hcl : (R.C n).getLast? = some c := by rw [List.getLast?_eq_getElem?, show (R.C n).length - 1 = d by omega]; exact hcd
      have cy : uC R n = w := by rw [hw]; unfold uC; rw [hcl]; rfl
      have eG : ((uQ R n).sG n G1 T1).Q.G n = G1 := upF_s
      have eT : ((uQ R n).sG n G1 T1).Q.T n = T1 := upF_s
      have budget : ∀ j', j' ≤ w → 3 + dC1 R n j' ≤ 3 + nc_i (∃ n d c, udA R p n d c ∧ roP (R.Q.G n) n (udL R n c).length) (dC1 R p.toNatClampNeg (uC R p.toNatClampNeg)) ∧ 18 + dC2 R n j' ≤ 18 + nc_i (∃ n d c, udA R p n d c ∧ roP (R.Q.G n) n (udL R n c).length) (dC2 R p.toNatClampNeg (uC R p.toNatClampNeg)) := fun j' hj' => by
        rw [nc_it ⟨n, d, c, hX, hw ▸ hro⟩, nc_it ⟨n, d, c, hX, hw ▸ hro⟩, cp, cy]
        have := rA_mono ((R.Q.G n).cn (owN (R.Q.G n) n)) hj'
        unfold dC1 dC2
        omega
      have g1 := (h1 2 n hn).2.1
      rw [eG, eT] at g1
      have y0 : Y1 n 0 = Y n 0 := hy 0 (by decide)
      have hml : (uM c.1 (udL R n c)).length = w := by rw [hw]; unfold uM; split; exact List.length_reverse; rfl
      refine if_le (by omega) (by omega) (fun q => ?_) (fun q => ?_)
      · have hjm : j = w := by omega
        subst hjm
        obtain ⟨b1, b2⟩ := budget j (Nat.le_refl _)
        rw [List.take_of_length_le (by rw [hml]; exact Nat.le_refl _)] at hRu
        have e2 : (uQ R n).sG n G1 T1 = R.sP n G1 T1 (R.Q.Kn n) (R.C n).dropLast := sP_sG R n _ _ _ _ _ _
        rw [e2] at h1
        exact ⟨rfl, trivial, ⟨_, rfl, n, d, c, G1, T1, hX, by rw [← hw]; exact hro, by rw [← hw], hRu, F1, z, Y1, h1, hF⟩, b1, b2⟩
      · have hne : (udL R n c).length ≠ 0 := by omega
        have hr := hro.resolve_left (by omega)
        have hOw := hOw hne
        obtain ⟨H, hH, -, -⟩ := hd_ex hGT.1
        obtain ⟨c1, c2⟩ := dC_s R n j hGc
        obtain ⟨b0, b0'⟩ := budget j (by omega)
        obtain ⟨b1, b2⟩ := budget (j + 1) q
        rw [← c1] at b1
        rw [← c2] at b2
        have r23 := g1.rk (k := 23) (by decide) (by decide) (by decide)
        have y23 : Y1 n 23 = Y n 23 := hy 23 (by decide)
        rw [y23, y0] at r23
        have r22 := h1 1 22 (by decide)
        have e23 : eI S1 (Y n 23) (nI d).toNatClampNeg = bI c.1 := by rw [nI_clamp (by omega)]; exact h23
        have hi13 : isO S1 13 (Y n 0) := by rw [← y0]; exact (g1 0).1
        have gd : ∀ i, i < w → ∃ x9, (udL R n c).getD i 0 = x9 + 1 ∧ (x9 + 1 ∈ udL R n c) ∧ eI S1 (z 22) i = nI x9 ∧ x9 < (R.Q.G n).n := fun i hi => by
          have hil : i < (udL R n c).length := by omega
          have hm9 : (udL R n c).getD i 0 ∈ udL R n c := by
            rw [List.getD_eq_getElem?_getD, List.getElem?_eq_getElem hil]
            exact List.getElem_mem hil
          obtain ⟨k9, e9, q9, -⟩ := g0.ond (List.mem_filter.1 hm9).1
          rw [e9] at hm9
          have := h22 i hil
          rw [e9, Nat.add_sub_cancel] at this
          exact ⟨k9, e9, hm9, this, q9⟩
        have pos : ∀ x, x ∈ T1.od → ∃ pz, pz < T1.od.length ∧ T1.od.getD pz 0 = x ∧ ((T1.od.take pz).filter (vis G1)).length = rkN G1 T1 x := fun x hx => by
          obtain ⟨U, V, e⟩ := List.append_of_mem hx
          refine ⟨U.length, by rw [e, List.length_append, List.length_cons]; omega, ?_, ?_⟩
          · rw [e, List.getD_eq_getElem?_getD, List.getElem?_append_right (Nat.le_refl _), Nat.sub_self]; rfl
          · rw [rkN_at hGT.2.2.1.2.1 e, e, List.take_left]
        have no15 : ∀ {x v}, F1 x = (100, v) → v ≠ 115 → ¬ (x = z 15 ∨ gO F1 (101 + n) x) := fun {x v} e h9 q => by
          rcases q with q | q
          · rw [q, (h1 1 15 (by decide)).2.1] at e
            injection e with _ e
            omega
          · have := q.own
            rw [e] at this
            have : 100 = 101 + n := this
            omega
        have no23 : ¬ (Y n 23 = z 15 ∨ gO F1 (101 + n) (Y n 23)) := fun q => by
          rcases q with q | ⟨k9, q, q2⟩
          · have := r23.2.1
            rw [q, (h1 1 15 (by decide)).2.1] at this
            injection this with this _
            omega
          · rw [r23.2.1] at q
            injection q with _ q
            omega
        have mtk : ∀ x, (uM c.1 (udL R n c))[j]? = some x → (uM c.1 (udL R n c)).take (j + 1) = (uM c.1 (udL R n c)).take j ++ [x] := fun x hx => by
          rw [List.take_add_one, hx]; rfl
        refine ⟨hi13, pa_i r23.1 ⟨Or.inr r23.2.2.1, inRn (N := 8192) r23.2.2.2 (by omega) (by decide), ?_⟩⟩
        rw [e23]
        refine ⟨fun q3 => ?_, fun q3 => ?_⟩
        · rw [bI_0] at q3
          obtain ⟨x9, gx1, gx2, gx3, gx4⟩ := gd j q
          obtain ⟨ho1, ho2⟩ := hxs _ gx2
          rw [Nat.add_sub_cancel] at ho2
          obtain ⟨pz, pz1, pz2, pz3⟩ := pos _ ho1
          refine ⟨nI x9, Or.inl ⟨r22.2.2.1, inRn (N := 8192) r22.2.2.2 (by omega) (by decide), by rw [nI_clamp (by omega)]; exact gx3.symm⟩, rfl, x9, rfl, F1, 101 + n, Y1 n, G1, T1, pz, ⟨y0.symm, g1, pz1, pz2⟩, b0, b0', rfl, n, rfl, F1, z, Y1, (uQ R n).sG n G1 T1, kz, owN (R.Q.G n) n, H, ⟨h1, hn, ?_⟩, ?_, ?_, fun v S19 hQ => ?_⟩
          · rw [eG, eT]; exact own_pre hGT hOw (by omega) (by omega) hH
          · rw [eG]; omega
          · rw [eG]; omega
          · rw [eG, eT] at hQ
            rw [eG, pz3]
            obtain ⟨rfl, F2, Y2, h2, f2, k2, m2, y2, kk2⟩ := hQ
            rw [sG_sG] at h2
            obtain ⟨pa1, pa2, pa3⟩ := own_pa G1 (owN (R.Q.G n) n) n G1.cn H
            have eG2 : ((uQ R n).sG n (pGr (eGr G1 (owN (R.Q.G n) n) n) (owN (R.Q.G n) n) G1.cn H) T1).Q.G n = pGr (eGr G1 (owN (R.Q.G n) n) n) (owN (R.Q.G n) n) G1.cn H := upF_s
            have eT2 : ((uQ R n).sG n (pGr (eGr G1 (owN (R.Q.G n) n) n) (owN (R.Q.G n) n) G1.cn H) T1).Q.T n = T1 := upF_s
            have g2 := (h2 2 n hn).2.1
            rw [eG2, eT2] at g2
            have yy : Y2 n 0 = Y n 0 := (y2 n 0 (by decide)).trans y0
            have r22' := h2 1 22 (by decide)
            have k22 := kk2.2.1 (z 22) r22.2.2.1.1 (no15 r22.2.1 (by decide))
            have k23 := kk2.2.1 (Y n 23) r23.2.2.1.1 no23
            have hix := (rkN_le (G := G1) hGT.2.2.1.2.1 ho1).1
            obtain ⟨c9, hc9⟩ : ∃ c9, (G1.ev x9).ch = some c9 := by
              obtain ⟨k9, e9, -, n9⟩ := (hGT.2.2.2.1 _).1 ho1
              have : k9 = x9 := by omega
              subst this
              cases h9 : (G1.ev k9).ch with
              | none => exact absurd h9 n9
              | some c9 => exact ⟨c9, rfl⟩
            have hx1 : x9 < G1.n := by omega
            have hcc : c9 < 2000000 := (hGT.2.1 x9 hx1).1 c9 hc9
            have g11 : eI S19 (Y2 n 11) x9 = nI c9 := by
              have hlt : x9 < (pGr (eGr G1 (owN (R.Q.G n) n) n) (owN (R.Q.G n) n) G1.cn H).n := by
                show x9 < (eGr G1 (owN (R.Q.G n) n) n).n + 1
                rw [(eGr_n G1 _ n).1]; omega
              refine ((g2 6 x9 hlt).1 c9 ?_).2
              rw [pGr, Gr.push_old (by rw [(eGr_n G1 _ n).1]; exact hx1), (eGr_n G1 _ n).2]
              exact hc9
            have r11 := g2.rk (k := 11) (by decide) (by decide) (by decide)
            rw [yy] at r11
            have hi13' : isO S19 13 (Y n 0) := by rw [← yy]; exact (g2 0).1
            refine ⟨hi13', nI x9, Or.inl ⟨r22'.2.2.1, inRn (N := 8192) r22'.2.2.2 (by omega) (by decide), by rw [nI_clamp (by omega), k22.2.2.2.1]; exact gx3.symm⟩, rdI (v := nI c9) r11.1 r11.2.2.1 (inRn (N := 8192) r11.2.2.2 (by omega) (by decide)) (by rw [nI_clamp (by omega)]; exact g11) ⟨rfl, G1.n, rfl, rkN G1 T1 (x9 + 1), rfl, c9, rfl, F2, 101 + n, Y2 n, _, T1, ⟨yy.symm, g2, ?_, pa2, pa3, fun hx => ?_, hGT.2.2.1, ?_, hcc⟩, by omega, by omega, fun S34 hE => ?_⟩⟩
            · show G1.n + 1 = (eGr G1 (owN (R.Q.G n) n) n).n + 1
              rw [(eGr_n G1 _ n).1]
            · obtain ⟨k9, e9, l9, -⟩ := (hGT.2.2.2.1 _).1 hx
              omega
            · rw [pa1, own_len hGT hOw (by omega)]; exact hix
            · obtain ⟨T', U, V, a1, a3, a4, aU, aV, a5⟩ := hE
              rw [pa1] at a1
              have hO := own_ins hGT hOw (by omega) (by omega) hH hix hcc a1 aU aV
              obtain ⟨x1, x2, x3, x4⟩ := hO.nx hOw
              have hFO : FO S34 F2 := fun b hb => (a4.1 b (h2 12 b hb)).1
              have hodm : ∀ x, x ∈ T1.od → x ∈ T'.od := fun x hx => by
                rw [aU] at hx
                rw [aV]
                rcases List.mem_append.1 hx with w | w
                · exact List.mem_append_left _ w
                · exact List.mem_append_right _ (List.mem_cons_of_mem _ w)
              have hMD := h2.gr hn a4 a5 a3 (fun _ _ => rfl) (fun _ _ => rfl) hFO (fun s => by rw [eG2, setI_cn]; exact Nat.le_refl _) (fun q hq => by
                rw [eT2] at hq
                exact hodm q hq)
              have eY : (fun k => if 116 ≤ k then Y2 n k else Y2 n k) = Y2 n := funext (fun k => by split <;> rfl)
              rw [eY, upY_own, sG_sG] at hMD
              have nog : ∀ {q v}, F2 q = (100, v) → ¬ gO F2 (101 + n) q := fun {q v} e h9 => by
                have := h9.own
                rw [e] at this
                have : 100 = 101 + n := this
                omega
              have f23 : F2 (Y n 23) = F1 (Y n 23) := f2 _ r23.2.2.1.1
              have kt := a4.2.1 t (h2 0).1.1 (nog (h2 0).2)
              have kz22 := a4.2.1 (z 22) r22'.2.2.1.1 (nog r22'.2.1)
              have kz23 := a4.2.1 (Y n 23) (kk2.1 _ r23.2.2.1.1).1 (fun q => no23 (Or.inr (by
                obtain ⟨k9, e9, w9⟩ := q
                rw [f23] at e9
                exact ⟨k9, e9, w9⟩)))
              have old : ∀ k9, k9 < G1.n → ((pGr (eGr G1 (owN (R.Q.G n) n) n) (owN (R.Q.G n) n) G1.cn H).setI G1.n (rkN G1 T1 (x9 + 1)) c9).ev k9 = G1.ev k9 := fun k9 hk9 => by
                obtain ⟨H', -, hst⟩ := hO
                exact hst.old hk9
              have hfr : mdN9 S S34 F F2 t := hF.tr ⟨f2, Keep.trN k2 a4 (fun b hb q => by have := q.own; rw [f2 b hb] at this; show 100 ≤ (F1 b).1; omega), (kt.1 1551).trans m2⟩
              refine ⟨w - (j + 1), by omega, n, d, c, w, j + 1, F2, Y2, _, T', rfl, hX, q, hw, hro, ⟨hMD, hfr, fun k hk => (y2 n k hk).trans (hy k hk), ⟨by rw [kz23.2.2.2.1, k23.2.2.2.1]; exact h23, fun k hk => by rw [kz22.2.2.2.1, k22.2.2.2.1]; exact h22 k hk⟩, ?_, x4, fun _ => x3, by omega, by omega, fun x hx => ⟨hodm _ (hxs x hx).1, ?_⟩, fun hc => absurd (hc.symm.trans q3) (by decide)⟩, by rw [nI_1], rfl, by omega, by omega⟩
              · rw [mtk (x9 + 1) (by
                  unfold uM
                  rw [if_neg (by rw [q3]; decide), ← gx1, List.getD_eq_getElem?_getD, List.getElem?_eq_getElem (by omega)]; rfl)]
                refine hRu.snoc (x := x9 + 1) ?_
                rw [if_neg (by rw [q3]; decide), Nat.add_sub_cancel, hc9]
                exact hO
              · obtain ⟨k9, e9, q9, -⟩ := g0.ond (List.mem_filter.1 hx).1
                rw [old _ (by omega)]
                exact (hxs x hx).2
        · rw [bI_0, Bool.not_eq_false] at q3
          have ew : nI w - 1 - nI j = nI (w - 1 - j) := by rw [nI_sub1 (by omega), pk_sub (by omega)]
          rw [ew]
          obtain ⟨x9, gx1, gx2, gx3, gx4⟩ := gd (w - 1 - j) (by omega)
          obtain ⟨ho1, ho2⟩ := hxs _ gx2
          obtain ⟨pz, pz1, pz2, pz3⟩ := pos _ ho1
          have hvx : vis G1 (x9 + 1) = true := by rw [← gx1]; exact hvs q3 _ (by omega)
          refine ⟨nI x9, Or.inl ⟨r22.2.2.1, inRn (N := 8192) r22.2.2.2 (by omega) (by decide), by rw [nI_clamp (by omega)]; exact gx3.symm⟩, rfl, x9, rfl, F1, 101 + n, Y1 n, G1, T1, pz, ⟨y0.symm, g1, pz1, pz2⟩, b0, b0', rfl, n, rfl, F1, z, Y1, (uQ R n).sG n G1 T1, kz, owN (R.Q.G n) n, H, ⟨h1, hn, ?_⟩, ?_, ?_, fun v S19 hQ => ?_⟩
          · rw [eG, eT]; exact own_pre hGT hOw (by omega) (by omega) hH
          · rw [eG]; omega
          · rw [eG]; omega
          · rw [eG, eT] at hQ
            rw [eG, pz3]
            obtain ⟨rfl, F2, Y2, h2, f2, k2, m2, y2, kk2⟩ := hQ
            rw [sG_sG] at h2
            obtain ⟨pa1, pa2, pa3⟩ := own_pa G1 (owN (R.Q.G n) n) n G1.cn H
            have eG2 : ((uQ R n).sG n (pGr (eGr G1 (owN (R.Q.G n) n) n) (owN (R.Q.G n) n) G1.cn H) T1).Q.G n = pGr (eGr G1 (owN (R.Q.G n) n) n) (owN (R.Q.G n) n) G1.cn H := upF_s
            have eT2 : ((uQ R n).sG n (pGr (eGr G1 (owN (R.Q.G n) n) n) (owN (R.Q.G n) n) G1.cn H) T1).Q.T n = T1 := upF_s
            have g2 := (h2 2 n hn).2.1
            rw [eG2, eT2] at g2
            have yy : Y2 n 0 = Y n 0 := (y2 n 0 (by decide)).trans y0
            have r22' := h2 1 22 (by decide)
            have k22 := kk2.2.1 (z 22) r22.2.2.1.1 (no15 r22.2.1 (by decide))
            have k23 := kk2.2.1 (Y n 23) r23.2.2.1.1 no23
            have hix := (rkN_le (G := G1) hGT.2.2.1.2.1 ho1).2 hvx
            refine ⟨rfl, G1.n, rfl, rkN G1 T1 (x9 + 1), rfl, F2, 101 + n, Y2 n, _, T1, ⟨yy.symm, g2, ?_, pa2, pa3, ?_⟩, by omega, by omega, fun S34 hE => ?_⟩
            · show G1.n + 1 = (eGr G1 (owN (R.Q.G n) n) n).n + 1
              rw [(eGr_n G1 _ n).1]
            · rw [pa1, own_len hGT hOw (by omega)]; exact hix
            · obtain ⟨j', t', a1, a2, a3, a4, a5⟩ := hE
              rw [pa1] at a1
              have hO := own_del hGT hOw (by omega) (by omega) hH hix a1 a2
              obtain ⟨x1, x2, x3, x4⟩ := hO.nx hOw
              have hFO : FO S34 F2 := fun b hb => (a4.1 b (h2 12 b hb)).1
              have hMD := h2.gr hn a4 a5 a3 (fun _ _ => rfl) (fun _ _ => rfl) hFO (fun s => by rw [eG2, setD_cn]; exact Nat.le_refl _) (fun x hx => by rw [eT2] at hx; exact hx)
              have eY : (fun k => if 116 ≤ k then Y2 n k else Y2 n k) = Y2 n := funext (fun k => by split <;> rfl)
              rw [eY, upY_own, sG_sG] at hMD
              have nog : ∀ {q v}, F2 q = (100, v) → ¬ gO F2 (101 + n) q := fun {q v} e h9 => by
                have := h9.own
                rw [e] at this
                have : 100 = 101 + n := this
                omega
              have f23 : F2 (Y n 23) = F1 (Y n 23) := f2 _ r23.2.2.1.1
              have kt := a4.2.1 t (h2 0).1.1 (nog (h2 0).2)
              have kz22 := a4.2.1 (z 22) r22'.2.2.1.1 (nog r22'.2.1)
              have kz23 := a4.2.1 (Y n 23) (kk2.1 _ r23.2.2.1.1).1 (fun q => no23 (Or.inr (by
                obtain ⟨k9, e9, w9⟩ := q
                rw [f23] at e9
                exact ⟨k9, e9, w9⟩)))
              have old : ∀ k9, k9 < G1.n → ((pGr (eGr G1 (owN (R.Q.G n) n) n) (owN (R.Q.G n) n) G1.cn H).setD G1.n (rkN G1 T1 (x9 + 1)) t').ev k9 = G1.ev k9 := fun k9 hk9 => by
                obtain ⟨H', -, hst⟩ := hO
                exact hst.old hk9
              have hfr : mdN9 S S34 F F2 t := hF.tr ⟨f2, Keep.trN k2 a4 (fun b hb q => by have := q.own; rw [f2 b hb] at this; show 100 ≤ (F1 b).1; omega), (kt.1 1551).trans m2⟩
              have hnd : (udL R n c).Nodup := List.Nodup.sublist List.filter_sublist g0.tnd
              refine ⟨w - (j + 1), by omega, n, d, c, w, j + 1, F2, Y2, _, T1, rfl, hX, q, hw, hro, ⟨hMD, hfr, fun k hk => (y2 n k hk).trans (hy k hk), ⟨by rw [kz23.2.2.2.1, k23.2.2.2.1]; exact h23, fun k hk => by rw [kz22.2.2.2.1, k22.2.2.2.1]; exact h22 k hk⟩, ?_, x4, fun _ => x3, by omega, by omega, fun x hx => ⟨(hxs x hx).1, ?_⟩, fun hc k hk => ?_⟩, by rw [nI_1], rfl, by omega, by omega⟩
              · rw [mtk (x9 + 1) (by
                  unfold uM
                  rw [if_pos q3, List.getElem?_reverse (by omega), ← hw, ← gx1, List.getD_eq_getElem?_getD, List.getElem?_eq_getElem (by omega)]; rfl)]
                refine hRu.snoc (x := x9 + 1) ?_
                rw [if_pos q3]
                exact hO
              · obtain ⟨k9, e9, q9, -⟩ := g0.ond (List.mem_filter.1 hx).1
                rw [old _ (by omega)]
                exact (hxs x hx).2
              · obtain ⟨y9, gy1, gy2, -, -⟩ := gd k (by omega)
                have hne9 : y9 + 1 ≠ x9 + 1 := by
                  rw [← gy1, ← gx1]
                  exact od_ne hnd (show k < w - 1 - j by omega) (by omega)
                rw [gy1]
                exact hO.visK hGT hOw (by omega) ho1 hvx (hxs _ gy2).1 hne9 (by rw [← gy1]; exact hvs q3 k (by omega))
theorem u_run02 (l : Launch) (hlt : l.stackTraces = false) : UsX l yX14_undo0 (Cond.code yX14_undo0 cX14_undo0 12 (some .int)) (some .int) 8 130 15 T_run02 := by
  intro Rc Rs av S cs sl K Kx h
  unfold T_run02 at h
  split at h
  · rename_i t_o p
    obtain ⟨t, rfl, h_1⟩ := pa_of h
    obtain ⟨F, z, Y, R, kz, hp, hc, hs, hk, hx0, hx1, hx2⟩ := h_1
    refine ⟨(sp_run02 t p F z Y R kz), c_run02 l hlt t p F z Y R kz, fun _ _ h9 => ⟨_, _, h9.1, (h9.2.1 0).1⟩, ⟨rfl, hp⟩, hc, hs, fun v9 S' h8 => by
      obtain ⟨v8, h7, h8⟩ := h8
      cases h7
      exact hk _ _ h8, fun _ _ q => by
      rcases q with ⟨rfl, q⟩ | ⟨rfl, q⟩ | ⟨rfl, q⟩
      · obtain ⟨q, rfl⟩ := q
        exact hx0 q
      · obtain ⟨q, rfl⟩ := q
        exact hx1 q
      · exact hx2 _ q⟩
  · exact h.elim
def T_run12 : TR := fun Rc Rs av S cs sl K _Kx => match av with
  | [.inr (.inr t_o), .inl p] => pa t_o fun t => (∃ (F : Nat → Nat × Nat) (z : Nat → Nat) (Y : Nat → Nat → Nat) (R : Rb) (kz : Nat → Nat), (MD S F t z Y R kz ∧ AbC R ∧ UcP R) ∧ cs + (3 + nc_i (∃ n d c, udA R p n d c ∧ roP (R.Q.G n) n (udL R n c).length) (dC1 R p.toNatClampNeg (uC R p.toNatClampNeg))) ≤ Rc ∧ sl + (18 + nc_i (∃ n d c, udA R p n d c ∧ roP (R.Q.G n) n (udL R n c).length) (dC2 R p.toNatClampNeg (uC R p.toNatClampNeg))) ≤ Rs ∧ (∀ (v : Int32) (S' : MM), (rudW S S' F t R kz p v ∨ (np 4 p ∧ v = 0 ∧ mdW S S' F t R kz 1) ∨ ((∃ n, n < 4 ∧ p = nI n ∧ R.C n = []) ∧ v = 0 ∧ mdW S S' F t R kz 2) ∨ ((∃ n d c, udA R p n d c ∧ ¬ roP (R.Q.G n) n (udL R n c).length) ∧ v = 0 ∧ mdW S S' F t R kz 3)) → K (some (.inl v)) S' (cs + (3 + nc_i (∃ n d c, udA R p n d c ∧ roP (R.Q.G n) n (udL R n c).length) (dC1 R p.toNatClampNeg (uC R p.toNatClampNeg)))) (sl + (18 + nc_i (∃ n d c, udA R p n d c ∧ roP (R.Q.G n) n (udL R n c).length) (dC2 R p.toNatClampNeg (uC R p.toNatClampNeg))))))
  | _ => False
noncomputable def sp_run12 (t : Nat) (p : Int32) (F : Nat → Nat × Nat) (z : Nat → Nat) (Y : Nat → Nat → Nat) (R : Rb) (kz : Nat → Nat) : Sp := (fun av S => av = [.inr (.inr (some t)), .inl p] ∧ (MD S F t z Y R kz ∧ AbC R ∧ UcP R), fun _ S => 3 + nc_i (∃ n d c, udA R p n d c ∧ roP (R.Q.G n) n (udL R n c).length) (dC1 R p.toNatClampNeg (uC R p.toNatClampNeg)), fun _ S => 18 + nc_i (∃ n d c, udA R p n d c ∧ roP (R.Q.G n) n (udL R n c).length) (dC2 R p.toNatClampNeg (uC R p.toNatClampNeg)), fun _ S rv S' => ∃ v, rv = (some (.inl v)) ∧ (rudW S S' F t R kz p v ∨ (np 4 p ∧ v = 0 ∧ mdW S S' F t R kz 1) ∨ ((∃ n, n < 4 ∧ p = nI n ∧ R.C n = []) ∧ v = 0 ∧ mdW S S' F t R kz 2) ∨ ((∃ n d c, udA R p n d c ∧ ¬ roP (R.Q.G n) n (udL R n c).length) ∧ v = 0 ∧ mdW S S' F t R kz 3)), fun _ _ _ _ => False)
set_option maxRecDepth 100000 in
set_option maxHeartbeats 2000000 in
theorem c_run12 (l : Launch) (hlt : l.stackTraces = false) : ∀ (t : Nat) (p : Int32) (F : Nat → Nat × Nat) (z : Nat → Nat) (Y : Nat → Nat → Nat) (R : Rb) (kz : Nat → Nat), CtX l yX14_undo (Cond.codeWith yX14_undo cX14_undo 3 (some .int) [(5, 10, 11, 138), (5, 10, 20, 141), (5, 10, 29, 156)]) (some .int) 9 161 (sp_run12 t p F z Y R kz) := by
  intro t p F z Y R kz
  refine CtX.ofH hlt (fX14, nX14, aX14, iX14, lX14, [(529, 0, 2, 1, T_run02)], qX14, gX14, []) false tX14_undo [((5, 10, 11, 138), 1), ((5, 10, 20, 141), 2), ((5, 10, 29, 156), 0)] (fun _ _ _ => none) (by decide) (by decide) kX14_undo ⟨_, _, rfl⟩ fX14_ok nX14_ok aX14_ok iX14_ok lX14_ok (fun p e R s m args below meth c Q D cy z r A C hR1 hR2 => List.forall_mem_cons.mpr ⟨cOK_use (fun _ _ _ _ _ _ _ _ h => let ⟨sp, h1, h2, h3⟩ := u_run02 l hlt _ _ _ _ _ _ _ _ h; ⟨sp, cOKx_V C h1 vX14_undo_529 ⟨by decide, by decide, by decide +kernel⟩ ⟨by rw [hR1]; decide, by rw [hR2]; decide⟩ (k := 15) (T := TX14) (N := 52) rfl (by decide) h2, h3⟩), fun _ h => absurd h List.not_mem_nil⟩) qX14_ok gX14_ok rfl (List.forall_mem_cons.mpr ⟨⟨by decide, mgd 1925 (by decide +kernel) (by decide +kernel)⟩, List.forall_mem_cons.mpr ⟨⟨by decide, mgd 2061 (by decide +kernel) (by decide +kernel)⟩, List.forall_mem_cons.mpr ⟨⟨by decide, mgd 1915 (by decide +kernel) (by decide +kernel)⟩, fun _ h => absurd h List.not_mem_nil⟩⟩⟩) (fun _ _ _ _ z => z) ?_ ?_
  · rintro _ S ⟨rfl, hp⟩
    refine ⟨Nat.le_of_ble_eq_true rfl, 300, ?_⟩
    show (True ∧ (isO S 15 t ∧ (0 = 0 ∧ (∃ (F_1 : Nat → Nat × Nat) (z_2 : Nat → Nat) (Y_3 : Nat → Nat → Nat) (R_4 : Rb) (kz_5 : Nat → Nat), (MD (sI S 1551 t (0 : Int32)) F_1 t z_2 Y_3 R_4 kz_5 ∧ AbC R_4 ∧ UcP R_4) ∧ 0 + (3 + nc_i (∃ n d c, udA R_4 p n d c ∧ roP (R_4.Q.G n) n (udL R_4 n c).length) (dC1 R_4 p.toNatClampNeg (uC R_4 p.toNatClampNeg))) ≤ 3 + nc_i (∃ n d c, udA R p n d c ∧ roP (R.Q.G n) n (udL R n c).length) (dC1 R p.toNatClampNeg (uC R p.toNatClampNeg)) ∧ 0 + (18 + nc_i (∃ n d c, udA R_4 p n d c ∧ roP (R_4.Q.G n) n (udL R_4 n c).length) (dC2 R_4 p.toNatClampNeg (uC R_4 p.toNatClampNeg))) ≤ 18 + nc_i (∃ n d c, udA R p n d c ∧ roP (R.Q.G n) n (udL R n c).length) (dC2 R p.toNatClampNeg (uC R p.toNatClampNeg)) ∧ ((∀ (x_7 : Int32) (S_6 : MM), (rudQ (sI S 1551 t (0 : Int32)) S_6 F_1 t R_4 kz_5 p x_7) → (([] : List MV) = [] ∧ mret (some .int) (sp_run12 t p F z Y R kz) [.inr (.inr (some t)), .inl p] S (some (.inl x_7)) S_6 (0 + (3 + nc_i (∃ n d c, udA R_4 p n d c ∧ roP (R_4.Q.G n) n (udL R_4 n c).length) (dC1 R_4 p.toNatClampNeg (uC R_4 p.toNatClampNeg)))) (0 + (18 + nc_i (∃ n d c, udA R_4 p n d c ∧ roP (R_4.Q.G n) n (udL R_4 n c).length) (dC2 R_4 p.toNatClampNeg (uC R_4 p.toNatClampNeg)))))) ∧ ((np 4 p) → (∀ e_9, (True ∧ (isO (sI S 1551 t (0 : Int32)) 15 t ∧ (([] : List MV) = [] ∧ mret (some .int) (sp_run12 t p F z Y R kz) [.inr (.inr (some t)), .inl p] S (some (.inl (0 : Int32))) (sI (sI S 1551 t (0 : Int32)) 1551 t (1 : Int32)) (0 + (3 + nc_i (∃ n d c, udA R_4 p n d c ∧ roP (R_4.Q.G n) n (udL R_4 n c).length) (dC1 R_4 p.toNatClampNeg (uC R_4 p.toNatClampNeg)))) (0 + (18 + nc_i (∃ n d c, udA R_4 p n d c ∧ roP (R_4.Q.G n) n (udL R_4 n c).length) (dC2 R_4 p.toNatClampNeg (uC R_4 p.toNatClampNeg))))))))) ∧ ((∃ n, n < 4 ∧ p = nI n ∧ R_4.C n = []) → (∀ e_11, (True ∧ (isO (sI S 1551 t (0 : Int32)) 15 t ∧ (([] : List MV) = [] ∧ mret (some .int) (sp_run12 t p F z Y R kz) [.inr (.inr (some t)), .inl p] S (some (.inl (0 : Int32))) (sI (sI S 1551 t (0 : Int32)) 1551 t (2 : Int32)) (0 + (3 + nc_i (∃ n d c, udA R_4 p n d c ∧ roP (R_4.Q.G n) n (udL R_4 n c).length) (dC1 R_4 p.toNatClampNeg (uC R_4 p.toNatClampNeg)))) (0 + (18 + nc_i (∃ n d c, udA R_4 p n d c ∧ roP (R_4.Q.G n) n (udL R_4 n c).length) (dC2 R_4 p.toNatClampNeg (uC R_4 p.toNatClampNeg))))))))) ∧ (∀ (S_12 : MM), (rudX (sI S 1551 t (0 : Int32)) S_12 F_1 t R_4 kz_5 p) → (∀ e_13, (True ∧ (isO S_12 15 t ∧ (([] : List MV) = [] ∧ mret (some .int) (sp_run12 t p F z Y R kz) [.inr (.inr (some t)), .inl p] S (some (.inl (0 : Int32))) (sI S_12 1551 t (3 : Int32)) (0 + (3 + nc_i (∃ n d c, udA R_4 p n d c ∧ roP (R_4.Q.G n) n (udL R_4 n c).length) (dC1 R_4 p.toNatClampNeg (uC R_4 p.toNatClampNeg)))) (0 + (18 + nc_i (∃ n d c, udA R_4 p n d c ∧ roP (R_4.Q.G n) n (udL R_4 n c).length) (dC2 R_4 p.toNatClampNeg (uC R_4 p.toNatClampNeg))))))))))))))
    obtain ⟨hp, hA⟩ := hp
    refine ⟨trivial, (hp 0).1, rfl, F, z, Y, R, kz, ⟨hp.th 0, hA⟩, Nat.le_of_eq (Nat.zero_add _), Nat.le_of_eq (Nat.zero_add _), fun v S3 h => ?_, fun h e => ⟨trivial, (hp 0).1, rfl, trivial, ⟨_, rfl, Or.inr (Or.inl ⟨h, rfl, (hp.ex0 1 rfl).w hp⟩)⟩, Nat.le_of_eq (Nat.zero_add _), Nat.le_of_eq (Nat.zero_add _)⟩, fun h e => ⟨trivial, (hp 0).1, rfl, trivial, ⟨_, rfl, Or.inr (Or.inr (Or.inl ⟨h, rfl, (hp.ex0 2 rfl).w hp⟩))⟩, Nat.le_of_eq (Nat.zero_add _), Nat.le_of_eq (Nat.zero_add _)⟩, fun S9 h e => ?_⟩
    · obtain ⟨n, d, c, G', T', g0, g1, g2, g3, g4⟩ := h
      exact ⟨rfl, trivial, ⟨_, rfl, Or.inl ⟨n, d, c, G', T', g0, g1, g2, g3, g4.ok hp⟩⟩, Nat.le_of_eq (Nat.zero_add _), Nat.le_of_eq (Nat.zero_add _)⟩
    · obtain ⟨n, d, c, g0, g1, g2⟩ := h
      obtain ⟨F9, z9, Y9, M9, -⟩ := id g2
      exact ⟨trivial, (M9 0).1, rfl, trivial, ⟨_, rfl, Or.inr (Or.inr (Or.inr ⟨⟨n, d, c, g0, g1⟩, rfl, g2.ex hp 3 rfl⟩))⟩, Nat.le_of_eq (Nat.zero_add _), Nat.le_of_eq (Nat.zero_add _)⟩
  · exact fun _ _ _ _ _ h => by cases h
theorem u_run12 (l : Launch) (hlt : l.stackTraces = false) : UsX l yX14_undo (Cond.codeWith yX14_undo cX14_undo 3 (some .int) [(5, 10, 11, 138), (5, 10, 20, 141), (5, 10, 29, 156)]) (some .int) 9 161 15 T_run12 := by
  intro Rc Rs av S cs sl K Kx h
  unfold T_run12 at h
  split at h
  · rename_i t_o p
    obtain ⟨t, rfl, h_1⟩ := pa_of h
    obtain ⟨F, z, Y, R, kz, hp, hc, hs, hk⟩ := h_1
    refine ⟨(sp_run12 t p F z Y R kz), c_run12 l hlt t p F z Y R kz, fun _ _ h9 => ⟨_, _, h9.1, (h9.2.1 0).1⟩, ⟨rfl, hp⟩, hc, hs, fun v9 S' h8 => by
      obtain ⟨v8, h7, h8⟩ := h8
      cases h7
      exact hk _ _ h8, fun _ _ q => q.elim⟩
  · exact h.elim
def T_rdf02 : TR := fun Rc Rs av S cs sl K Kx => match av with
  | [.inr (.inr t_o), .inl b, .inl c] => pa t_o fun t => (∃ (F : Nat → Nat × Nat) (z : Nat → Nat) (Y : Nat → Nat → Nat) (R : Rb) (kz : Nat → Nat), (MD S F t z Y R kz ∧ hkD kz) ∧ cs + (3 + nc_i (∃ i j n, dfW R b c i j n) (dfC R kz b c)) ≤ Rc ∧ sl + (18 + nc_i (∃ i j n, dfW R b c i j n) (dfZ R kz b c)) ≤ Rs ∧ ((∀ (v : Int32) (S' : MM), (dfQ S S' F t R kz b c v) → K (some (.inl v)) S' (cs + (3 + nc_i (∃ i j n, dfW R b c i j n) (dfC R kz b c))) (sl + (18 + nc_i (∃ i j n, dfW R b c i j n) (dfZ R kz b c)))) ∧ ((np 8 b ∨ np 8 c) → Kx 1 S (cs + (3 + nc_i (∃ i j n, dfW R b c i j n) (dfC R kz b c))) (sl + (18 + nc_i (∃ i j n, dfW R b c i j n) (dfZ R kz b c)))) ∧ ((∃ i j, i < 8 ∧ b = nI i ∧ j < 8 ∧ c = nI j ∧ (R.Q.mp i = none ∨ R.Q.mp j = none)) → Kx 2 S (cs + (3 + nc_i (∃ i j n, dfW R b c i j n) (dfC R kz b c))) (sl + (18 + nc_i (∃ i j n, dfW R b c i j n) (dfZ R kz b c)))) ∧ ((∃ i j p q, i < 8 ∧ b = nI i ∧ j < 8 ∧ c = nI j ∧ R.Q.mp i = some p ∧ R.Q.mp j = some q ∧ p ≠ q) → Kx 3 S (cs + (3 + nc_i (∃ i j n, dfW R b c i j n) (dfC R kz b c))) (sl + (18 + nc_i (∃ i j n, dfW R b c i j n) (dfZ R kz b c))))))
  | _ => False
noncomputable def sp_rdf02 (t : Nat) (b : Int32) (c : Int32) (F : Nat → Nat × Nat) (z : Nat → Nat) (Y : Nat → Nat → Nat) (R : Rb) (kz : Nat → Nat) : Sp := (fun av S => av = [.inr (.inr (some t)), .inl b, .inl c] ∧ (MD S F t z Y R kz ∧ hkD kz), fun _ S => 3 + nc_i (∃ i j n, dfW R b c i j n) (dfC R kz b c), fun _ S => 18 + nc_i (∃ i j n, dfW R b c i j n) (dfZ R kz b c), fun _ S rv S' => ∃ v, rv = (some (.inl v)) ∧ (dfQ S S' F t R kz b c v), fun _ S E S' => (E = 1 ∧ (np 8 b ∨ np 8 c) ∧ S' = S) ∨ (E = 2 ∧ (∃ i j, i < 8 ∧ b = nI i ∧ j < 8 ∧ c = nI j ∧ (R.Q.mp i = none ∨ R.Q.mp j = none)) ∧ S' = S) ∨ (E = 3 ∧ (∃ i j p q, i < 8 ∧ b = nI i ∧ j < 8 ∧ c = nI j ∧ R.Q.mp i = some p ∧ R.Q.mp j = some q ∧ p ≠ q) ∧ S' = S))
set_option maxRecDepth 100000 in
set_option maxHeartbeats 2000000 in
theorem c_rdf02 (l : Launch) (hlt : l.stackTraces = false) : ∀ (t : Nat) (b : Int32) (c : Int32) (F : Nat → Nat × Nat) (z : Nat → Nat) (Y : Nat → Nat → Nat) (R : Rb) (kz : Nat → Nat), CtX l yX14_differ0 (Cond.code yX14_differ0 cX14_differ0 12 (some .int)) (some .int) 7 109 (sp_rdf02 t b c F z Y R kz) := by
  intro t b c F z Y R kz
  refine CtX.of hlt (fX14, nX14, aX14, iX14, lX14, [(144, 2, 3, 1, T_rin), (148, 2, 1, 0, T_rck), (236, 2, 1, 0, T_rth), (297, 0, 4, 1, T_rsn), (304, 2, 2, 3, T_cpi)], qX14, gX14, thX14) false tX14_differ0 (fun _ S => look [(28, ([0,1,2], I_d0 t b c S)), (54, ([0,1,2], I_d1 t b c R S)), (109, ([0,1,2,3,4,5,6,7,8], I_d2 t b c F Y R kz S)), (134, ([0,1,2,3,4,5,6,7,8,9], I_d7 t b c F Y R kz S)), (168, ([0,1,2,3,4,5,6,7,8,9,10], I_d8 t b c F Y R kz S)), (202, ([0,1,2,3,4,5,6,7,8,9,10,11], I_d9 t b c F Y R kz S)), (215, ([0,1,2,3,4,5,6,7,8,9,10,11], I_dz1 t b c F Y R kz S)), (228, ([0,1,2,3,4,5,6,7,8,9,10,11], I_db t b c F Y R kz S)), (246, ([0,1,2,3,4,5,6,7,8], I_d3 t b c F Y R kz S)), (286, ([0,1,2,3,4,5,6,7,8], I_dw 0 t b c F Y R kz S)), (299, ([0,1,2,3,4,5,6,7,8], I_dw 1 t b c F Y R kz S)), (314, ([0,1,2,3,4,5,6,7,8], I_dw 2 t b c F Y R kz S)), (329, ([0,1,2,3,4,5,6,7,8], I_dw 3 t b c F Y R kz S)), (344, ([0,1,2,3,4,5,6,7,8], I_dw 4 t b c F Y R kz S)), (354, ([0,1,2,3,4,5,6,7,8], I_d5 t b c F Y R kz S)), (378, ([0,1,2,3,4,5,6,7,8], I_d6 t b c F Y R kz S))]) (by decide) (by decide) kX14_differ0 ⟨_, _, rfl⟩ fX14_ok nX14_ok aX14_ok iX14_ok lX14_ok (fun p e R s m args below meth c Q D cy z r A C hR1 hR2 => List.forall_mem_cons.mpr ⟨cOK_use (fun _ _ _ _ _ _ _ _ h => let ⟨sp, h1, _, h3⟩ := u_rin l _ _ _ _ _ _ _ _ h; ⟨sp, cOK_S C h1 vX14_differ0_144 ⟨by decide, by decide, by decide +kernel⟩ ⟨by rw [hR1]; decide, by rw [hR2]; decide⟩, h3⟩), List.forall_mem_cons.mpr ⟨cOK_use (fun _ _ _ _ _ _ _ _ h => let ⟨sp, h1, _, h3⟩ := u_rck l hlt _ _ _ _ _ _ _ _ h; ⟨sp, cOKx_S C h1 vX14_differ0_148 ⟨by decide, by decide, by decide +kernel⟩ ⟨by rw [hR1]; decide, by rw [hR2]; decide⟩, h3⟩), List.forall_mem_cons.mpr ⟨cOK_use (fun _ _ _ _ _ _ _ _ h => let ⟨sp, h1, _, h3⟩ := u_rth l hlt _ _ _ _ _ _ _ _ h; ⟨sp, cOKx_S C h1 vX14_differ0_236 ⟨by decide, by decide, by decide +kernel⟩ ⟨by rw [hR1]; decide, by rw [hR2]; decide⟩, h3⟩), List.forall_mem_cons.mpr ⟨cOK_use (fun _ _ _ _ _ _ _ _ h => let ⟨sp, h1, h2, h3⟩ := u_rsn l _ _ _ _ _ _ _ _ h; ⟨sp, cOK_V C h1 vX14_differ0_297 ⟨by decide, by decide, by decide +kernel⟩ ⟨by rw [hR1]; decide, by rw [hR2]; decide⟩ (k := 13) (T := TX12) (N := 27) rfl (by decide) h2, h3⟩), List.forall_mem_cons.mpr ⟨cOK_use (fun _ _ _ _ _ _ _ _ h => let ⟨sp, h1, _, h3⟩ := u_cpi l _ _ _ _ _ _ _ _ h; ⟨sp, cOK_S C h1 vX14_differ0_304 ⟨by decide, by decide, by decide +kernel⟩ ⟨by rw [hR1]; decide, by rw [hR2]; decide⟩, h3⟩), fun _ h => absurd h List.not_mem_nil⟩⟩⟩⟩⟩) qX14_ok gX14_ok (fun q hq => ⟨thX14_ok q hq, by decide, by decide⟩) ?_ ?_
  · rintro _ S ⟨rfl, hp⟩
    refine ⟨Nat.le_of_ble_eq_true rfl, 300, ?_⟩
    show (2 = 2 ∧ (True ∧ 0 ≤ 3 + nc_i (∃ i j n, dfW R b c i j n) (dfC R kz b c) ∧ 0 ≤ 18 + nc_i (∃ i j n, dfW R b c i j n) (dfZ R kz b c) ∧ ((((tf ((0 : Int32) ≤ b ∧ b ≤ (7 : Int32))) = 0 → (2 = 2 ∧ (((0 : Int32) = 0 ∨ (0 : Int32) = 1) ∧ 0 + 1 ≤ 3 + nc_i (∃ i j n, dfW R b c i j n) (dfC R kz b c) ∧ 0 + 6 ≤ 18 + nc_i (∃ i j n, dfW R b c i j n) (dfZ R kz b c) ∧ ((∀ (S_2 : MM), (S_2 = S ∧ (0 : Int32) = 1) → (∃ k1, I_d0 t b c S k1 [(0, .inr (.inr (some t))), (1, .inl b), (2, .inl c)] [] S_2 (0 + 1) (0 + 6))) ∧ (((0 : Int32) = 0) → mthr (sp_rdf02 t b c F z Y R kz) [.inr (.inr (some t)), .inl b, .inl c] S 1 S (0 + 1) (0 + 6)))))) ∧ (¬ (tf ((0 : Int32) ≤ b ∧ b ≤ (7 : Int32))) = 0 → (2 = 2 ∧ (True ∧ 0 ≤ 3 + nc_i (∃ i j n, dfW R b c i j n) (dfC R kz b c) ∧ 0 ≤ 18 + nc_i (∃ i j n, dfW R b c i j n) (dfZ R kz b c) ∧ ((((tf ((0 : Int32) ≤ c ∧ c ≤ (7 : Int32))) = 0 → (2 = 2 ∧ (((0 : Int32) = 0 ∨ (0 : Int32) = 1) ∧ 0 + 1 ≤ 3 + nc_i (∃ i j n, dfW R b c i j n) (dfC R kz b c) ∧ 0 + 6 ≤ 18 + nc_i (∃ i j n, dfW R b c i j n) (dfZ R kz b c) ∧ ((∀ (S_5 : MM), (S_5 = S ∧ (0 : Int32) = 1) → (∃ k1, I_d0 t b c S k1 [(0, .inr (.inr (some t))), (1, .inl b), (2, .inl c)] [] S_5 (0 + 1) (0 + 6))) ∧ (((0 : Int32) = 0) → mthr (sp_rdf02 t b c F z Y R kz) [.inr (.inr (some t)), .inl b, .inl c] S 1 S (0 + 1) (0 + 6)))))) ∧ (¬ (tf ((0 : Int32) ≤ c ∧ c ≤ (7 : Int32))) = 0 → (2 = 2 ∧ (((1 : Int32) = 0 ∨ (1 : Int32) = 1) ∧ 0 + 1 ≤ 3 + nc_i (∃ i j n, dfW R b c i j n) (dfC R kz b c) ∧ 0 + 6 ≤ 18 + nc_i (∃ i j n, dfW R b c i j n) (dfZ R kz b c) ∧ ((∀ (S_7 : MM), (S_7 = S ∧ (1 : Int32) = 1) → (∃ k1, I_d0 t b c S k1 [(0, .inr (.inr (some t))), (1, .inl b), (2, .inl c)] [] S_7 (0 + 1) (0 + 6))) ∧ (((1 : Int32) = 0) → mthr (sp_rdf02 t b c F z Y R kz) [.inr (.inr (some t)), .inl b, .inl c] S 1 S (0 + 1) (0 + 6)))))))))))))))
    obtain ⟨hM, hK⟩ := hp
    have fail : ∀ {a9 b9 : Nat}, (np 8 b ∨ np 8 c) → a9 ≤ 3 → b9 ≤ 18 → mthr (sp_rdf02 t b c F z Y R kz) [.inr (.inr (some t)), .inl b, .inl c] S 1 S a9 b9 := fun h ha hb => ⟨Or.inl ⟨rfl, h, rfl⟩, Nat.le_trans ha (Nat.le_add_right _ _), Nat.le_trans hb (Nat.le_add_right _ _)⟩
    refine ⟨rfl, trivial, by omega, by omega, fun h => ⟨rfl, Or.inl rfl, by omega, by omega, fun S9 h => absurd h.2 (by decide), fun _ => fail (Or.inl (in_0k (k := 7) (by decide) h)) (by decide) (by decide)⟩, fun h => ?_⟩
    obtain ⟨i, hi, rfl⟩ := in_1k (k := 7) (by decide) ((tf_b _).resolve_left h)
    refine ⟨rfl, trivial, by omega, by omega, fun h => ⟨rfl, Or.inl rfl, by omega, by omega, fun S9 h => absurd h.2 (by decide), fun _ => fail (Or.inr (in_0k (k := 7) (by decide) h)) (by decide) (by decide)⟩, fun h => ⟨rfl, Or.inr rfl, by omega, by omega, fun S9 h9 => ?_, fun h => absurd h (by decide)⟩⟩
    obtain ⟨j, hj, rfl⟩ := in_1k (k := 7) (by decide) ((tf_b _).resolve_left h)
    obtain ⟨rfl, -⟩ := h9
    exact ⟨400000, i, j, rfl, hi, rfl, hj, rfl, rfl, rfl, rfl, rfl, rfl⟩
  · intro av S hpre pc I hI k lo st S1 cs sl h
    obtain ⟨rfl, hp⟩ := hpre
    have hm := look_in hI
    simp only [List.mem_cons, List.not_mem_nil, or_false] at hm
    rcases hm with hm | hm | hm | hm | hm | hm | hm | hm | hm | hm | hm | hm | hm | hm | hm | hm
    · cases hm
      obtain ⟨i, j, rfl, hi, hbi, hj, hcj, rfl, rfl, rfl, rfl, rfl⟩ := h
      refine ⟨300, ?_⟩
      show (isO S 15 t ∧ (pa (mR S 1505 t) fun a_1 => ∃ v_2 : Int32, (isO S 17 a_1 ∧ inR S a_1 (nI i) ∧ v_2 = eI S a_1 (nI i).toNatClampNeg ∨ a_1 = (mQ S).1 ∧ vp_in (nI i) 16 ∧ v_2 = mRem (nI i).toNatClampNeg) ∧ ((v_2 < 0 → (2 = 2 ∧ (((0 : Int32) = 0 ∨ (0 : Int32) = 1) ∧ 1 + 1 ≤ 3 + nc_i (∃ i j n, dfW R b c i j n) (dfC R kz b c) ∧ 6 + 6 ≤ 18 + nc_i (∃ i j n, dfW R b c i j n) (dfZ R kz b c) ∧ ((∀ (S_3 : MM), (S_3 = S ∧ (0 : Int32) = 1) → (∃ k1, k1 < 400000 ∧ I_d1 t b c R S k1 [(0, .inr (.inr (some t))), (1, .inl (nI i)), (2, .inl (nI j))] [] S_3 (1 + 1) (6 + 6))) ∧ (((0 : Int32) = 0) → mthr (sp_rdf02 t b c F z Y R kz) [.inr (.inr (some t)), .inl b, .inl c] S 2 S (1 + 1) (6 + 6)))))) ∧ (¬ v_2 < 0 → (isO S 15 t ∧ (pa (mR S 1505 t) fun a_5 => ∃ v_6 : Int32, (isO S 17 a_5 ∧ inR S a_5 (nI j) ∧ v_6 = eI S a_5 (nI j).toNatClampNeg ∨ a_5 = (mQ S).1 ∧ vp_in (nI j) 16 ∧ v_6 = mRem (nI j).toNatClampNeg) ∧ ((v_6 < 0 → (2 = 2 ∧ (((0 : Int32) = 0 ∨ (0 : Int32) = 1) ∧ 1 + 1 ≤ 3 + nc_i (∃ i j n, dfW R b c i j n) (dfC R kz b c) ∧ 6 + 6 ≤ 18 + nc_i (∃ i j n, dfW R b c i j n) (dfZ R kz b c) ∧ ((∀ (S_7 : MM), (S_7 = S ∧ (0 : Int32) = 1) → (∃ k1, k1 < 400000 ∧ I_d1 t b c R S k1 [(0, .inr (.inr (some t))), (1, .inl (nI i)), (2, .inl (nI j))] [] S_7 (1 + 1) (6 + 6))) ∧ (((0 : Int32) = 0) → mthr (sp_rdf02 t b c F z Y R kz) [.inr (.inr (some t)), .inl b, .inl c] S 2 S (1 + 1) (6 + 6)))))) ∧ (¬ v_6 < 0 → (2 = 2 ∧ (((1 : Int32) = 0 ∨ (1 : Int32) = 1) ∧ 1 + 1 ≤ 3 + nc_i (∃ i j n, dfW R b c i j n) (dfC R kz b c) ∧ 6 + 6 ≤ 18 + nc_i (∃ i j n, dfW R b c i j n) (dfZ R kz b c) ∧ ((∀ (S_9 : MM), (S_9 = S ∧ (1 : Int32) = 1) → (∃ k1, k1 < 400000 ∧ I_d1 t b c R S k1 [(0, .inr (.inr (some t))), (1, .inl (nI i)), (2, .inl (nI j))] [] S_9 (1 + 1) (6 + 6))) ∧ (((1 : Int32) = 0) → mthr (sp_rdf02 t b c F z Y R kz) [.inr (.inr (some t)), .inl b, .inl c] S 2 S (1 + 1) (6 + 6)))))))))))))
      obtain ⟨hM, hK⟩ := hp
      have r5 := hM 1 5 (by decide)
      have ci : (nI i).toNatClampNeg = i := nI_clamp (by omega)
      have cj : (nI j).toNatClampNeg = j := nI_clamp (by omega)
      have fail : (R.Q.mp i = none ∨ R.Q.mp j = none) → mthr (sp_rdf02 t b c F z Y R kz) [.inr (.inr (some t)), .inl b, .inl c] S 2 S (1 + 1) (6 + 6) := fun h => ⟨Or.inr (Or.inl ⟨rfl, ⟨i, j, hi, hbi, hj, hcj, h⟩, rfl⟩), by show 2 ≤ 3 + nc_i (∃ i j n, dfW R b c i j n) (dfC R kz b c); omega, by show 12 ≤ 18 + nc_i (∃ i j n, dfW R b c i j n) (dfZ R kz b c); omega⟩
      refine ⟨(hM 0).1, rdI (v := stI (R.Q.mp i)) r5.1 r5.2.2.1 (inRn (N := 8) r5.2.2.2 hi (by decide)) (by rw [ci]; exact (hM 5 i hi).1) ?_⟩
      cases hpi : R.Q.mp i with
      | none => exact ⟨fun _ => ⟨rfl, Or.inl rfl, by omega, by omega, fun S9 h => absurd h.2 (by decide), fun _ => fail (Or.inl hpi)⟩, fun w => absurd (by decide : (-1 : Int32) < 0) w⟩
      | some p1 =>
        have hp1 := ((hM 5 i hi).2 p1 hpi).1
        refine ⟨fun w => absurd w (nI_pos (show p1 < 2147483648 by omega)), fun _ => ⟨(hM 0).1, rdI (v := stI (R.Q.mp j)) r5.1 r5.2.2.1 (inRn (N := 8) r5.2.2.2 hj (by decide)) (by rw [cj]; exact (hM 5 j hj).1) ?_⟩⟩
        cases hpj : R.Q.mp j with
        | none => exact ⟨fun _ => ⟨rfl, Or.inl rfl, by omega, by omega, fun S9 h => absurd h.2 (by decide), fun _ => fail (Or.inr hpj)⟩, fun w => absurd (by decide : (-1 : Int32) < 0) w⟩
        | some p2 =>
          have hp2 := ((hM 5 j hj).2 p2 hpj).1
          refine ⟨fun w => absurd w (nI_pos (show p2 < 2147483648 by omega)), fun _ => ⟨rfl, Or.inr rfl, by omega, by omega, fun S9 h9 => ?_, fun h => absurd h (by decide)⟩⟩
          obtain ⟨rfl, -⟩ := h9
          exact ⟨300000, by decide, i, j, p1, p2, rfl, hi, hbi, hj, hcj, hpi, hpj, rfl, rfl, rfl, rfl, rfl⟩
    · cases hm
      obtain ⟨i, j, p1, p2, rfl, hi, hbi, hj, hcj, hpi, hpj, rfl, rfl, rfl, rfl, rfl⟩ := h
      refine ⟨300, ?_⟩
      show (isO S 15 t ∧ (pa (mR S 1505 t) fun a_1 => ∃ v_2 : Int32, (isO S 17 a_1 ∧ inR S a_1 (nI i) ∧ v_2 = eI S a_1 (nI i).toNatClampNeg ∨ a_1 = (mQ S).1 ∧ vp_in (nI i) 16 ∧ v_2 = mRem (nI i).toNatClampNeg) ∧ (isO S 15 t ∧ (pa (mR S 1505 t) fun a_3 => ∃ v_4 : Int32, (isO S 17 a_3 ∧ inR S a_3 (nI j) ∧ v_4 = eI S a_3 (nI j).toNatClampNeg ∨ a_3 = (mQ S).1 ∧ vp_in (nI j) 16 ∧ v_4 = mRem (nI j).toNatClampNeg) ∧ ((v_2 = v_4 → (isO S 15 t ∧ (isO S 15 t ∧ (pa (mR S 1505 t) fun a_5 => ∃ v_6 : Int32, (isO S 17 a_5 ∧ inR S a_5 (nI i) ∧ v_6 = eI S a_5 (nI i).toNatClampNeg ∨ a_5 = (mQ S).1 ∧ vp_in (nI i) 16 ∧ v_6 = mRem (nI i).toNatClampNeg) ∧ (pa (mR S 1500 t) fun a_7 => a_7 ∈ mL S ∧ ¬ mK S a_7 < 21 ∧ mK S a_7 < 29 ∧ inR S a_7 v_6 ∧ (True ∧ (isO S 15 t ∧ (∃ k1, k1 < 300000 ∧ I_d2 t b c F Y R kz S k1 [(0, .inr (.inr (some t))), (1, .inl (nI i)), (2, .inl (nI j)), (3, .inr (.inr (eR S a_7 v_6.toNatClampNeg))), (4, .inl (0 : Int32)), (5, .inl (0 : Int32)), (6, .inl (0 : Int32)), (7, .inl (0 : Int32)), (8, .inl (0 : Int32))] [] (sI S 1510 t (0 : Int32)) 2 12)))))))) ∧ (¬ v_2 = v_4 → (mthr (sp_rdf02 t b c F z Y R kz) [.inr (.inr (some t)), .inl b, .inl c] S 3 S (2 + 1) (12 + 6))))))))
      obtain ⟨hM, hK⟩ := hp
      have r5 := hM 1 5 (by decide)
      have r0 := hM 1 0 (by decide)
      have ci : (nI i).toNatClampNeg = i := nI_clamp (by omega)
      have cj : (nI j).toNatClampNeg = j := nI_clamp (by omega)
      have e5 : eI S (z 5) (nI i).toNatClampNeg = nI p1 := by rw [ci, (hM 5 i hi).1, hpi]; rfl
      have e6 : eI S (z 5) (nI j).toNatClampNeg = nI p2 := by rw [cj, (hM 5 j hj).1, hpj]; rfl
      have hp1 := ((hM 5 i hi).2 p1 hpi).1
      have hp2 := ((hM 5 j hj).2 p2 hpj).1
      have er : eR S (z 0) (nI p1).toNatClampNeg = some (Y p1 0) := by rw [nI_clamp (by omega)]; exact (hM 2 p1 hp1).1
      refine ⟨(hM 0).1, rdI r5.1 r5.2.2.1 (inRn (N := 8) r5.2.2.2 hi (by decide)) e5 ⟨(hM 0).1, rdI r5.1 r5.2.2.1 (inRn (N := 8) r5.2.2.2 hj (by decide)) e6 ?_⟩⟩
      refine if_eq (by omega) (by omega) (fun e => ⟨(hM 0).1, (hM 0).1, rdI r5.1 r5.2.2.1 (inRn (N := 8) r5.2.2.2 hi (by decide)) e5 (pa_i r0.1 ⟨r0.2.2.1.1, by rw [r0.2.2.1.2]; decide, by rw [r0.2.2.1.2]; decide, inRn (N := 4) r0.2.2.2 hp1 (by decide), trivial, (hM 0).1, ?_⟩)⟩) (fun e => ⟨Or.inr (Or.inr ⟨rfl, ⟨i, j, p1, p2, hi, hbi, hj, hcj, hpi, hpj, e⟩, rfl⟩), by show 3 ≤ 3 + nc_i (∃ i j n, dfW R b c i j n) (dfC R kz b c); omega, by show 18 ≤ 18 + nc_i (∃ i j n, dfW R b c i j n) (dfZ R kz b c); omega⟩)
      rw [er]
      subst e
      have hW : dfW R b c i j p1 := ⟨hi, hbi, hj, hcj, hpi, hpj⟩
      have g := (hM 2 p1 hp1).2.1
      have hnm := g.nm
      have hol := g.odl
      have M1 : MD (sI S 1510 t 0) F t z Y (R.sQ (R.Q.sHu [])) kz := hM.hun (Keep.sI (P := fun c => c = t ∨ ∃ k, k ∈ [9] ∧ c = z k) Keep.rf (Or.inl rfl)) (by rw [mI_sI, if_pos ⟨rfl, rfl⟩]; rfl) (Nat.zero_le _) (fun k hk => absurd hk (Nat.not_lt_zero k)) (fun f hf => by rw [mI_sI, if_neg (fun e => hf e.1)]) (fun f => rfl)
      refine ⟨dfm R p1 0 + 19, by unfold dfm; omega, i, j, p1, 0, kz 9, [], 0, 0, 0, 0, 0, 0, rfl, ⟨hW, hp1, F, z, by rw [upF_id]; exact M1, fun _ _ => rfl, Keep.sI (P := fun c => 100 ≤ (F c).1) Keep.rf hM.own, by rw [mI_sI, if_neg (fun e => absurd e.1 (by decide))]⟩, Or.inl ⟨Nat.zero_le _, rfl, Nat.zero_add _, Nat.zero_add _, ⟨hK.1, Nat.le_refl 0, Nat.le_refl 0, Nat.le_refl 0⟩, hK.2⟩, rfl, rfl, rfl, rfl⟩
    · cases hm
      obtain ⟨i, j, n, q, N, Q, fi, si, de, ie, c0, s0, rfl, hA, hT, rfl, rfl, rfl, rfl⟩ := h
      refine ⟨300, ?_⟩
      show (isO S1 13 (Y n 0) ∧ (((mI S1 1302 (Y n 0)) < (nI q) → (isO S1 15 t ∧ (([] : List MV) = [] ∧ mret (some .int) (sp_rdf02 t b c F z Y R kz) [.inr (.inr (some t)), .inl b, .inl c] S (some (.inl (mI S1 1510 t))) S1 (2 + c0) (12 + s0)))) ∧ (¬ (mI S1 1302 (Y n 0)) < (nI q) → (isO S1 13 (Y n 0) ∧ ((¬ (nI q) = (mI S1 1302 (Y n 0)) → (∃ k1, k1 < (dfm R n q + 19) ∧ I_d7 t b c F Y R kz S k1 [(0, .inr (.inr (some t))), (1, .inl (nI i)), (2, .inl (nI j)), (3, .inr (.inr (some (Y n 0)))), (4, .inl (nI fi)), (5, .inl (nI si)), (6, .inl (nI de)), (7, .inl (nI ie)), (8, .inl (nI q)), (9, .inl (0 : Int32))] [] S1 (2 + c0) (12 + s0))) ∧ ((nI q) = (mI S1 1302 (Y n 0)) → (∃ k1, k1 < (dfm R n q + 19) ∧ I_d7 t b c F Y R kz S k1 [(0, .inr (.inr (some t))), (1, .inl (nI i)), (2, .inl (nI j)), (3, .inr (.inr (some (Y n 0)))), (4, .inl (nI fi)), (5, .inl (nI si)), (6, .inl (nI de)), (7, .inl (nI ie)), (8, .inl (nI q)), (9, .inl (1 : Int32))] [] S1 (2 + c0) (12 + s0))))))))
      obtain ⟨hM0, hK⟩ := hp
      obtain ⟨hW, hn, F1, z1, hM, hF⟩ := id hA
      have g : RG S1 F1 (101 + n) (Y n) (R.Q.G n) (R.Q.T n) := (hM 2 n hn).2.1
      have hnm := g.nm
      have hol := g.odl
      have hl := hW.len
      have e1 : mI S1 1302 (Y n 0) = nI (R.Q.T n).od.length := (g 2).2.2
      have cb : b.toNatClampNeg = i := by rw [hW.2.1]; exact nI_clamp (by have := hW.1; omega)
      have cc : c.toNatClampNeg = j := by rw [hW.2.2.2.1]; exact nI_clamp (by have := hW.2.2.1; omega)
      have hq2 : q ≤ (R.Q.T n).od.length + 1 := by rcases hT with h | h <;> have := h.1 <;> omega
      rw [e1]
      refine ⟨(g 0).1, if_lt (by omega) (by omega) (fun w => ⟨(hM 0).1, ?_⟩) (fun w => ⟨(g 0).1, ?_⟩)⟩
      · obtain ⟨t1, t2, t3, t4, t5⟩ : dfE R kz i j q (N, Q, fi, si, de, ie) c0 s0 := hT.resolve_left (fun h => by have := h.1; omega)
        have t2 : (dfR R kz i j).1 = N := t2
        have t3 : (dfR R kz i j).2.1 = Q := t3
        have m10 : mI S1 1510 t = nI Q.length := (hM 7).1
        rw [m10]
        exact ⟨rfl, trivial, ⟨_, rfl, i, j, n, hW, by rw [t3], F1, z1, Y, by rw [t2, t3]; exact hM, hF⟩, by show 2 + c0 ≤ 3 + nc_i (∃ i j n, dfW R b c i j n) (dfC R kz b c); rw [nc_it ⟨i, j, n, hW⟩]; unfold dfC; rw [cb, cc, ← t4]; omega, by show 12 + s0 ≤ 18 + nc_i (∃ i j n, dfW R b c i j n) (dfZ R kz b c); rw [nc_it ⟨i, j, n, hW⟩]; unfold dfZ; rw [cb, cc, ← t5]; omega⟩
      · have hT : dfT R kz i j q (N, Q, fi, si, de, ie) c0 s0 := hT.resolve_right (fun h => by have := h.1; omega)
        exact if_ne (by omega) (by omega) (fun w2 => ⟨dfm R n q + 18, by omega, i, j, n, q, N, Q, fi, si, de, ie, c0, s0, 0, rfl, hA, hT, by rw [if_neg w2], rfl, rfl, rfl, rfl⟩) (fun w2 => ⟨dfm R n q + 18, by omega, i, j, n, q, N, Q, fi, si, de, ie, c0, s0, 1, rfl, hA, hT, by rw [if_pos w2], rfl, rfl, rfl, rfl⟩)
    · cases hm
      obtain ⟨i, j, n, q, N, Q, fi, si, de, ie, c0, s0, l9, rfl, hA, hT, hl9, rfl, rfl, rfl, rfl⟩ := h
      refine ⟨300, ?_⟩
      show ((¬ (nI l9) = 0 → (∃ k1, k1 < (dfm R n q + 18) ∧ I_d8 t b c F Y R kz S k1 [(0, .inr (.inr (some t))), (1, .inl (nI i)), (2, .inl (nI j)), (3, .inr (.inr (some (Y n 0)))), (4, .inl (nI fi)), (5, .inl (nI si)), (6, .inl (nI de)), (7, .inl (nI ie)), (8, .inl (nI q)), (9, .inl (nI l9)), (10, .inl (0 : Int32))] [] S1 (2 + c0) (12 + s0))) ∧ ((nI l9) = 0 → (isO S1 15 t ∧ (isO S1 13 (Y n 0) ∧ (pa (mR S1 1321 (Y n 0)) fun a_1 => ∃ v_2 : Int32, (isO S1 17 a_1 ∧ inR S1 a_1 (nI q) ∧ v_2 = eI S1 a_1 (nI q).toNatClampNeg ∨ a_1 = (mQ S1).1 ∧ vp_in (nI q) 16 ∧ v_2 = mRem (nI q).toNatClampNeg) ∧ (0 = 0 ∧ ((pa (mR S1 1506 t) fun a_3 => (∃ (o_4 : Nat), (16 : Int32) * (nI i) = nI o_4 ∧ (∃ (nd_5 : Nat), v_2 = nI nd_5 ∧ (∃ (F_6 : Nat → Nat × Nat) (i_7 : Nat) (y_8 : Nat → Nat) (G_9 : Gr) (T_10 : Tr) (W_11 : Nat → Nat), ((Y n 0) = y_8 0 ∧ RG S1 F_6 i_7 y_8 G_9 T_10 ∧ StR S1 a_3 o_4 W_11 ∧ nd_5 < G_9.n) ∧ (2 + c0) ≤ 3 + nc_i (∃ i j n, dfW R b c i j n) (dfC R kz b c) ∧ (12 + s0) ≤ 18 + nc_i (∃ i j n, dfW R b c i j n) (dfZ R kz b c) ∧ ((((bI (snW G_9 W_11 (nd_5 + 1))) = 0 → (∃ k1, k1 < (dfm R n q + 18) ∧ I_d8 t b c F Y R kz S k1 [(0, .inr (.inr (some t))), (1, .inl (nI i)), (2, .inl (nI j)), (3, .inr (.inr (some (Y n 0)))), (4, .inl (nI fi)), (5, .inl (nI si)), (6, .inl (nI de)), (7, .inl (nI ie)), (8, .inl (nI q)), (9, .inl (nI l9)), (10, .inl (0 : Int32))] [] S1 (2 + c0) (12 + s0))) ∧ (¬ (bI (snW G_9 W_11 (nd_5 + 1))) = 0 → (∃ k1, k1 < (dfm R n q + 18) ∧ I_d8 t b c F Y R kz S k1 [(0, .inr (.inr (some t))), (1, .inl (nI i)), (2, .inl (nI j)), (3, .inr (.inr (some (Y n 0)))), (4, .inl (nI fi)), (5, .inl (nI si)), (6, .inl (nI de)), (7, .inl (nI ie)), (8, .inl (nI q)), (9, .inl (nI l9)), (10, .inl (1 : Int32))] [] S1 (2 + c0) (12 + s0))))))))))))))))
      obtain ⟨hW, hn, F1, z1, hM, hF⟩ := id hA
      have g : RG S1 F1 (101 + n) (Y n) (R.Q.G n) (R.Q.T n) := (hM 2 n hn).2.1
      have hnm := g.nm
      have hol := g.odl
      have hl := hW.len
      have r6 := hM 1 6 (by decide)
      have cb : b.toNatClampNeg = i := by rw [hW.2.1]; exact nI_clamp (by have := hW.1; omega)
      have cc : c.toNatClampNeg = j := by rw [hW.2.2.2.1]; exact nI_clamp (by have := hW.2.2.1; omega)
      have k1 : 2 + c0 ≤ 3 + nc_i (∃ i j n, dfW R b c i j n) (dfC R kz b c) := by rw [nc_it ⟨i, j, n, hW⟩]; unfold dfC; rw [cb, cc, ← hT.2.2.1]; omega
      have k2 : 12 + s0 ≤ 18 + nc_i (∃ i j n, dfW R b c i j n) (dfZ R kz b c) := by rw [nc_it ⟨i, j, n, hW⟩]; unfold dfZ; rw [cb, cc, ← hT.2.2.2.1]; omega
      have l2 : l9 = 0 ∨ l9 = 1 := by rw [hl9]; split; exact Or.inr rfl; exact Or.inl rfl
      have go : ∀ b9 : Nat, b9 = ((rfP R i j).getD q (0, 0)).1 → ∃ k1, k1 < dfm R n q + 18 ∧ I_d8 t b c F Y R kz S k1 ([(0, .inr (.inr (some t))), (1, .inl (nI i)), (2, .inl (nI j)), (3, .inr (.inr (some (Y n 0)))), (4, .inl (nI fi)), (5, .inl (nI si)), (6, .inl (nI de)), (7, .inl (nI ie)), (8, .inl (nI q)), (9, .inl (nI l9))] ++ [(10, .inl (nI b9))]) [] S1 (2 + c0) (12 + s0) := fun b9 h9 => ⟨dfm R n q + 17, by omega, i, j, n, q, N, Q, fi, si, de, ie, c0, s0, l9, b9, rfl, hA, hT, hl9, h9, rfl, rfl, rfl, rfl⟩
      refine if_ne (b := 0) (by omega) (by decide) (fun w => go 0 ?_) (fun w => ?_)
      · have e : q = (R.Q.T n).od.length := Classical.byContradiction (fun c9 => w (by rw [hl9, if_neg c9]))
        rw [List.getD_eq_getElem?_getD, List.getElem?_eq_none (by omega)]; rfl
      · have c9 : ¬ q = (R.Q.T n).od.length := fun c9 => absurd (hl9.symm.trans w) (by rw [if_pos c9]; decide)
        have hq : q < (R.Q.T n).od.length := by have := hT.1; omega
        obtain ⟨x9, hx, hxn, hxc, hxo⟩ := g.odn hq
        have eg := hW.get hq
        rw [hx] at eg
        have hSt : StR S1 (z1 6) (16 * i) (R.M i) := hM.st6 hW.1 hW.2.2.2.2.1 hn
        refine ⟨(hM 0).1, (g 0).1, g.g21 hq ⟨rfl, pa_i r6.1 ⟨16 * i, nI_mul16, x9, by rw [hx]; rfl, F1, 101 + n, Y n, R.Q.G n, R.Q.T n, R.M i, ⟨rfl, g, hSt, hxn⟩, k1, k2, fun w2 => go 0 ?_, fun w2 => go 1 ?_⟩⟩⟩
        · rw [bI_0] at w2
          rw [eg]
          exact (if_neg (by rw [w2]; decide)).symm
        · rw [bI_0, Bool.not_eq_false] at w2
          rw [eg]
          exact (if_pos w2).symm
    · cases hm
      obtain ⟨i, j, n, q, N, Q, fi, si, de, ie, c0, s0, l9, b1, rfl, hA, hT, hl9, hb1, rfl, rfl, rfl, rfl⟩ := h
      refine ⟨300, ?_⟩
      show ((¬ (nI l9) = 0 → (∃ k1, k1 < (dfm R n q + 17) ∧ I_d9 t b c F Y R kz S k1 [(0, .inr (.inr (some t))), (1, .inl (nI i)), (2, .inl (nI j)), (3, .inr (.inr (some (Y n 0)))), (4, .inl (nI fi)), (5, .inl (nI si)), (6, .inl (nI de)), (7, .inl (nI ie)), (8, .inl (nI q)), (9, .inl (nI l9)), (10, .inl (nI b1)), (11, .inl (0 : Int32))] [] S1 (2 + c0) (12 + s0))) ∧ ((nI l9) = 0 → (isO S1 15 t ∧ (isO S1 13 (Y n 0) ∧ (pa (mR S1 1321 (Y n 0)) fun a_1 => ∃ v_2 : Int32, (isO S1 17 a_1 ∧ inR S1 a_1 (nI q) ∧ v_2 = eI S1 a_1 (nI q).toNatClampNeg ∨ a_1 = (mQ S1).1 ∧ vp_in (nI q) 16 ∧ v_2 = mRem (nI q).toNatClampNeg) ∧ (0 = 0 ∧ ((pa (mR S1 1506 t) fun a_3 => (∃ (o_4 : Nat), (16 : Int32) * (nI j) = nI o_4 ∧ (∃ (nd_5 : Nat), v_2 = nI nd_5 ∧ (∃ (F_6 : Nat → Nat × Nat) (i_7 : Nat) (y_8 : Nat → Nat) (G_9 : Gr) (T_10 : Tr) (W_11 : Nat → Nat), ((Y n 0) = y_8 0 ∧ RG S1 F_6 i_7 y_8 G_9 T_10 ∧ StR S1 a_3 o_4 W_11 ∧ nd_5 < G_9.n) ∧ (2 + c0) ≤ 3 + nc_i (∃ i j n, dfW R b c i j n) (dfC R kz b c) ∧ (12 + s0) ≤ 18 + nc_i (∃ i j n, dfW R b c i j n) (dfZ R kz b c) ∧ ((((bI (snW G_9 W_11 (nd_5 + 1))) = 0 → (∃ k1, k1 < (dfm R n q + 17) ∧ I_d9 t b c F Y R kz S k1 [(0, .inr (.inr (some t))), (1, .inl (nI i)), (2, .inl (nI j)), (3, .inr (.inr (some (Y n 0)))), (4, .inl (nI fi)), (5, .inl (nI si)), (6, .inl (nI de)), (7, .inl (nI ie)), (8, .inl (nI q)), (9, .inl (nI l9)), (10, .inl (nI b1)), (11, .inl (0 : Int32))] [] S1 (2 + c0) (12 + s0))) ∧ (¬ (bI (snW G_9 W_11 (nd_5 + 1))) = 0 → (∃ k1, k1 < (dfm R n q + 17) ∧ I_d9 t b c F Y R kz S k1 [(0, .inr (.inr (some t))), (1, .inl (nI i)), (2, .inl (nI j)), (3, .inr (.inr (some (Y n 0)))), (4, .inl (nI fi)), (5, .inl (nI si)), (6, .inl (nI de)), (7, .inl (nI ie)), (8, .inl (nI q)), (9, .inl (nI l9)), (10, .inl (nI b1)), (11, .inl (1 : Int32))] [] S1 (2 + c0) (12 + s0))))))))))))))))
      obtain ⟨hW, hn, F1, z1, hM, hF⟩ := id hA
      have g : RG S1 F1 (101 + n) (Y n) (R.Q.G n) (R.Q.T n) := (hM 2 n hn).2.1
      have hnm := g.nm
      have hol := g.odl
      have hl := hW.len
      have r6 := hM 1 6 (by decide)
      have cb : b.toNatClampNeg = i := by rw [hW.2.1]; exact nI_clamp (by have := hW.1; omega)
      have cc : c.toNatClampNeg = j := by rw [hW.2.2.2.1]; exact nI_clamp (by have := hW.2.2.1; omega)
      have k1 : 2 + c0 ≤ 3 + nc_i (∃ i j n, dfW R b c i j n) (dfC R kz b c) := by rw [nc_it ⟨i, j, n, hW⟩]; unfold dfC; rw [cb, cc, ← hT.2.2.1]; omega
      have k2 : 12 + s0 ≤ 18 + nc_i (∃ i j n, dfW R b c i j n) (dfZ R kz b c) := by rw [nc_it ⟨i, j, n, hW⟩]; unfold dfZ; rw [cb, cc, ← hT.2.2.2.1]; omega
      have l2 : l9 = 0 ∨ l9 = 1 := by rw [hl9]; split; exact Or.inr rfl; exact Or.inl rfl
      have go : ∀ b9 : Nat, b9 = ((rfP R i j).getD q (0, 0)).2 → ∃ k1, k1 < dfm R n q + 17 ∧ I_d9 t b c F Y R kz S k1 ([(0, .inr (.inr (some t))), (1, .inl (nI i)), (2, .inl (nI j)), (3, .inr (.inr (some (Y n 0)))), (4, .inl (nI fi)), (5, .inl (nI si)), (6, .inl (nI de)), (7, .inl (nI ie)), (8, .inl (nI q)), (9, .inl (nI l9)), (10, .inl (nI b1))] ++ [(11, .inl (nI b9))]) [] S1 (2 + c0) (12 + s0) := fun b9 h9 => ⟨dfm R n q + 16, by omega, i, j, n, q, N, Q, fi, si, de, ie, c0, s0, l9, b1, b9, rfl, hA, hT, hl9, hb1, h9, rfl, rfl, rfl, rfl⟩
      refine if_ne (b := 0) (by omega) (by decide) (fun w => go 0 ?_) (fun w => ?_)
      · have e : q = (R.Q.T n).od.length := Classical.byContradiction (fun c9 => w (by rw [hl9, if_neg c9]))
        rw [List.getD_eq_getElem?_getD, List.getElem?_eq_none (by omega)]; rfl
      · have c9 : ¬ q = (R.Q.T n).od.length := fun c9 => absurd (hl9.symm.trans w) (by rw [if_pos c9]; decide)
        have hq : q < (R.Q.T n).od.length := by have := hT.1; omega
        obtain ⟨x9, hx, hxn, hxc, hxo⟩ := g.odn hq
        have eg := hW.get hq
        rw [hx] at eg
        have hSt : StR S1 (z1 6) (16 * j) (R.M j) := hM.st6 hW.2.2.1 hW.2.2.2.2.2 hn
        refine ⟨(hM 0).1, (g 0).1, g.g21 hq ⟨rfl, pa_i r6.1 ⟨16 * j, nI_mul16, x9, by rw [hx]; rfl, F1, 101 + n, Y n, R.Q.G n, R.Q.T n, R.M j, ⟨rfl, g, hSt, hxn⟩, k1, k2, fun w2 => go 0 ?_, fun w2 => go 1 ?_⟩⟩⟩
        · rw [bI_0] at w2
          rw [eg]
          exact (if_neg (by rw [w2]; decide)).symm
        · rw [bI_0, Bool.not_eq_false] at w2
          rw [eg]
          exact (if_pos w2).symm
    · cases hm
      obtain ⟨i, j, n, q, N, Q, fi, si, de, ie, c0, s0, l9, b1, b2, rfl, hA, hT, hl9, hb1, hb2, rfl, rfl, rfl, rfl⟩ := h
      refine ⟨300, ?_⟩
      show (((nI b1) = 0 → (∃ k1, k1 < (dfm R n q + 16) ∧ I_dz1 t b c F Y R kz S k1 [(0, .inr (.inr (some t))), (1, .inl (nI i)), (2, .inl (nI j)), (3, .inr (.inr (some (Y n 0)))), (4, .inl (nI fi)), (5, .inl (nI si)), (6, .inl (nI de)), (7, .inl (nI ie)), (8, .inl (nI q)), (9, .inl (nI l9)), (10, .inl (nI b1)), (11, .inl (nI b2))] [] S1 (2 + c0) (12 + s0))) ∧ (¬ (nI b1) = 0 → ((¬ (nI b2) = 0 → (∃ k1, k1 < (dfm R n q + 16) ∧ I_dz1 t b c F Y R kz S k1 [(0, .inr (.inr (some t))), (1, .inl (nI i)), (2, .inl (nI j)), (3, .inr (.inr (some (Y n 0)))), (4, .inl (nI fi)), (5, .inl (nI si)), (6, .inl (nI de)), (7, .inl (nI ie)), (8, .inl (nI q)), (9, .inl (nI l9)), (10, .inl (nI b1)), (11, .inl (nI b2))] [] S1 (2 + c0) (12 + s0))) ∧ ((nI b2) = 0 → (∃ k1, k1 < (dfm R n q + 16) ∧ I_dz1 t b c F Y R kz S k1 [(0, .inr (.inr (some t))), (1, .inl (nI i)), (2, .inl (nI j)), (3, .inr (.inr (some (Y n 0)))), (4, .inl (nI fi)), (5, .inl (nI si)), (6, .inl ((nI de) + (1 : Int32))), (7, .inl (nI ie)), (8, .inl (nI q)), (9, .inl (nI l9)), (10, .inl (nI b1)), (11, .inl (nI b2))] [] S1 (2 + c0) (12 + s0))))))
      obtain ⟨p1, p2⟩ := rfP_01 (R := R) (i := i) (j := j) (q := q)
      have p1 : b1 = 0 ∨ b1 = 1 := by rw [hb1]; exact p1
      have p2 : b2 = 0 ∨ b2 = 1 := by rw [hb2]; exact p2
      have go : ∀ d9 : Nat, d9 = de + (if b1 = 1 ∧ b2 = 0 then 1 else 0) → ∃ k1, k1 < dfm R n q + 16 ∧ I_dz1 t b c F Y R kz S k1 [(0, .inr (.inr (some t))), (1, .inl (nI i)), (2, .inl (nI j)), (3, .inr (.inr (some (Y n 0)))), (4, .inl (nI fi)), (5, .inl (nI si)), (6, .inl (nI d9)), (7, .inl (nI ie)), (8, .inl (nI q)), (9, .inl (nI l9)), (10, .inl (nI b1)), (11, .inl (nI b2))] [] S1 (2 + c0) (12 + s0) := fun d9 h9 => ⟨dfm R n q + 15, by omega, i, j, n, q, N, Q, fi, si, de, ie, c0, s0, l9, b1, b2, d9, rfl, hA, hT, hl9, hb1, hb2, h9, rfl, rfl, rfl, rfl⟩
      refine if_eq (b := 0) (by omega) (by decide) (fun w => go de (by rw [if_neg (by omega)]; rfl)) (fun w => if_ne (b := 0) (by omega) (by decide) (fun w2 => go de (by rw [if_neg (by omega)]; rfl)) (fun w2 => ?_))
      rw [nI_1]
      exact go (de + 1) (by rw [if_pos (by omega)])
    · cases hm
      obtain ⟨i, j, n, q, N, Q, fi, si, de, ie, c0, s0, l9, b1, b2, de', rfl, hA, hT, hl9, hb1, hb2, hde, rfl, rfl, rfl, rfl⟩ := h
      refine ⟨300, ?_⟩
      show (((nI b2) = 0 → (∃ k1, k1 < (dfm R n q + 15) ∧ I_db t b c F Y R kz S k1 [(0, .inr (.inr (some t))), (1, .inl (nI i)), (2, .inl (nI j)), (3, .inr (.inr (some (Y n 0)))), (4, .inl (nI fi)), (5, .inl (nI si)), (6, .inl (nI de')), (7, .inl (nI ie)), (8, .inl (nI q)), (9, .inl (nI l9)), (10, .inl (nI b1)), (11, .inl (nI b2))] [] S1 (2 + c0) (12 + s0))) ∧ (¬ (nI b2) = 0 → ((¬ (nI b1) = 0 → (∃ k1, k1 < (dfm R n q + 15) ∧ I_db t b c F Y R kz S k1 [(0, .inr (.inr (some t))), (1, .inl (nI i)), (2, .inl (nI j)), (3, .inr (.inr (some (Y n 0)))), (4, .inl (nI fi)), (5, .inl (nI si)), (6, .inl (nI de')), (7, .inl (nI ie)), (8, .inl (nI q)), (9, .inl (nI l9)), (10, .inl (nI b1)), (11, .inl (nI b2))] [] S1 (2 + c0) (12 + s0))) ∧ ((nI b1) = 0 → (∃ k1, k1 < (dfm R n q + 15) ∧ I_db t b c F Y R kz S k1 [(0, .inr (.inr (some t))), (1, .inl (nI i)), (2, .inl (nI j)), (3, .inr (.inr (some (Y n 0)))), (4, .inl (nI fi)), (5, .inl (nI si)), (6, .inl (nI de')), (7, .inl ((nI ie) + (1 : Int32))), (8, .inl (nI q)), (9, .inl (nI l9)), (10, .inl (nI b1)), (11, .inl (nI b2))] [] S1 (2 + c0) (12 + s0))))))
      obtain ⟨p1, p2⟩ := rfP_01 (R := R) (i := i) (j := j) (q := q)
      have p1 : b1 = 0 ∨ b1 = 1 := by rw [hb1]; exact p1
      have p2 : b2 = 0 ∨ b2 = 1 := by rw [hb2]; exact p2
      have go : ∀ d9 : Nat, d9 = ie + (if b2 = 1 ∧ b1 = 0 then 1 else 0) → ∃ k1, k1 < dfm R n q + 15 ∧ I_db t b c F Y R kz S k1 [(0, .inr (.inr (some t))), (1, .inl (nI i)), (2, .inl (nI j)), (3, .inr (.inr (some (Y n 0)))), (4, .inl (nI fi)), (5, .inl (nI si)), (6, .inl (nI de')), (7, .inl (nI d9)), (8, .inl (nI q)), (9, .inl (nI l9)), (10, .inl (nI b1)), (11, .inl (nI b2))] [] S1 (2 + c0) (12 + s0) := fun d9 h9 => ⟨dfm R n q + 14, by omega, i, j, n, q, N, Q, fi, si, de, ie, c0, s0, l9, b1, b2, de', d9, rfl, hA, hT, hl9, hb1, hb2, hde, h9, rfl, rfl, rfl, rfl⟩
      refine if_eq (b := 0) (by omega) (by decide) (fun w => go ie (by rw [if_neg (by omega)]; rfl)) (fun w => if_ne (b := 0) (by omega) (by decide) (fun w2 => go ie (by rw [if_neg (by omega)]; rfl)) (fun w2 => ?_))
      rw [nI_1]
      exact go (ie + 1) (by rw [if_pos (by omega)])
    · cases hm
      obtain ⟨i, j, n, q, N, Q, fi, si, de, ie, c0, s0, l9, b1, b2, de', ie', rfl, hA, hT, hl9, hb1, hb2, hde, hie, rfl, rfl, rfl, rfl⟩ := h
      refine ⟨300, ?_⟩
      show ((¬ (nI l9) = 0 → (∃ k1, k1 < (dfm R n q + 14) ∧ I_d3 t b c F Y R kz S k1 [(0, .inr (.inr (some t))), (1, .inl (nI i)), (2, .inl (nI j)), (3, .inr (.inr (some (Y n 0)))), (4, .inl (nI fi)), (5, .inl (nI si)), (6, .inl (nI de')), (7, .inl (nI ie')), (8, .inl (nI q))] [] S1 (2 + c0) (12 + s0))) ∧ ((nI l9) = 0 → (((nI b1) = 0 → (∃ k1, k1 < (dfm R n q + 14) ∧ I_d6 t b c F Y R kz S k1 [(0, .inr (.inr (some t))), (1, .inl (nI i)), (2, .inl (nI j)), (3, .inr (.inr (some (Y n 0)))), (4, .inl (nI fi)), (5, .inl (nI si)), (6, .inl (nI de')), (7, .inl (nI ie')), (8, .inl (nI q))] [] S1 (2 + c0) (12 + s0))) ∧ (¬ (nI b1) = 0 → ((¬ (nI b2) = 0 → (∃ k1, k1 < (dfm R n q + 14) ∧ I_d3 t b c F Y R kz S k1 [(0, .inr (.inr (some t))), (1, .inl (nI i)), (2, .inl (nI j)), (3, .inr (.inr (some (Y n 0)))), (4, .inl (nI fi)), (5, .inl (nI si)), (6, .inl (nI de')), (7, .inl (nI ie')), (8, .inl (nI q))] [] S1 (2 + c0) (12 + s0))) ∧ ((nI b2) = 0 → (∃ k1, k1 < (dfm R n q + 14) ∧ I_d6 t b c F Y R kz S k1 [(0, .inr (.inr (some t))), (1, .inl (nI i)), (2, .inl (nI j)), (3, .inr (.inr (some (Y n 0)))), (4, .inl (nI fi)), (5, .inl (nI si)), (6, .inl (nI de')), (7, .inl (nI ie')), (8, .inl (nI q))] [] S1 (2 + c0) (12 + s0))))))))
      obtain ⟨hW, hn, F1, z1, hM, hF⟩ := id hA
      have g : RG S1 F1 (101 + n) (Y n) (R.Q.G n) (R.Q.T n) := (hM 2 n hn).2.1
      have hnm := g.nm
      have hol := g.odl
      have hl := hW.len
      obtain ⟨p1, p2⟩ := rfP_01 (R := R) (i := i) (j := j) (q := q)
      have p1 : b1 = 0 ∨ b1 = 1 := by rw [hb1]; exact p1
      have p2 : b2 = 0 ∨ b2 = 1 := by rw [hb2]; exact p2
      have l2 : l9 = 0 ∨ l9 = 1 := by rw [hl9]; split; exact Or.inr rfl; exact Or.inl rfl
      have u1 : b1 = 0 → ¬ (b1 = 1 ∧ b2 = 1) := fun e => by omega
      have u2 : b2 = 0 → ¬ (b1 = 1 ∧ b2 = 1) := fun e => by omega
      have u3 : b1 ≠ 0 → b2 ≠ 0 → b1 = 1 ∧ b2 = 1 := fun e1 e2 => by omega
      have u4 : ¬ (b1 = 1 ∧ b2 = 1) → de' = de + b1 := fun e => by
        rw [hde]
        split <;> omega
      have u5 : ¬ (b1 = 1 ∧ b2 = 1) → ie' = ie + b2 := fun e => by
        rw [hie]
        split <;> omega
      have u6 : b1 < 2147483648 ∧ b2 < 2147483648 ∧ l9 < 2147483648 := by omega
      have u7 : l9 ≠ 0 → q = (rfP R i j).length := fun w => by
        have e : q = (R.Q.T n).od.length := Classical.byContradiction (fun c9 => w (by rw [hl9, if_neg c9]))
        omega
      have u8 : q ≤ (rfP R i j).length ∧ (rfP R i j).length ≤ 8192 := ⟨hT.1, by omega⟩
      have goC : (q = (rfP R i j).length ∨ (b1 = 1 ∧ b2 = 1)) → ∃ k1, k1 < dfm R n q + 14 ∧ I_d3 t b c F Y R kz S k1 [(0, .inr (.inr (some t))), (1, .inl (nI i)), (2, .inl (nI j)), (3, .inr (.inr (some (Y n 0)))), (4, .inl (nI fi)), (5, .inl (nI si)), (6, .inl (nI de')), (7, .inl (nI ie')), (8, .inl (nI q))] [] S1 (2 + c0) (12 + s0) := fun h9 => by
        have h0 : (b1 = 0 ∧ b2 = 0) ∨ (b1 = 1 ∧ b2 = 1) := by
          rcases h9 with e | e
          · have : (rfP R i j).getD q (0, 0) = (0, 0) := by rw [List.getD_eq_getElem?_getD, List.getElem?_eq_none (by omega)]; rfl
            rw [this] at hb1 hb2
            exact Or.inl ⟨hb1, hb2⟩
          · exact Or.inr e
        have d1 : de' = de := by rw [hde, if_neg (by omega)]; rfl
        have d2 : ie' = ie := by rw [hie, if_neg (by omega)]; rfl
        rw [d1, d2]
        exact ⟨dfm R n q + 13, by omega, i, j, n, q, N, Q, fi, si, de, ie, c0, s0, rfl, hA, hT, by rw [← hb1, ← hb2]; exact h9, rfl, rfl, rfl, rfl⟩
      have goN : l9 = 0 → ¬ (b1 = 1 ∧ b2 = 1) → ∃ k1, k1 < dfm R n q + 14 ∧ I_d6 t b c F Y R kz S k1 [(0, .inr (.inr (some t))), (1, .inl (nI i)), (2, .inl (nI j)), (3, .inr (.inr (some (Y n 0)))), (4, .inl (nI fi)), (5, .inl (nI si)), (6, .inl (nI de')), (7, .inl (nI ie')), (8, .inl (nI q))] [] S1 (2 + c0) (12 + s0) := fun w9 h9 => by
        have c9 : ¬ q = (R.Q.T n).od.length := fun c9 => absurd (hl9.symm.trans w9) (by rw [if_pos c9]; decide)
        have hq : q < (rfP R i j).length := Nat.lt_of_le_of_ne u8.1 (fun e => c9 (e.trans hl))
        have hs := hT.step u8.2 hq (by rw [← hb1, ← hb2]; exact h9)
        rw [← hb1, ← hb2] at hs
        rw [u4 h9, u5 h9]
        exact ⟨dfm R n q + 6, Nat.add_lt_add_left (by decide) _, i, j, n, q, N, Q, fi, si, de + b1, ie + b2, c0, s0, rfl, hA, by rw [← hl]; exact u8.1, Or.inl hs, rfl, rfl, rfl, rfl⟩
      exact if_ne (b := 0) u6.2.2 (by decide) (fun w => goC (Or.inl (u7 w))) (fun w => if_eq (b := 0) u6.1 (by decide) (fun w2 => goN w (u1 w2)) (fun w2 => if_ne (b := 0) u6.2.1 (by decide) (fun w3 => goC (Or.inr (u3 w2 w3))) (fun w3 => goN w (u2 w3))))
    · cases hm
      obtain ⟨i, j, n, q, N, Q, fi, si, de, ie, c0, s0, rfl, hA, hT, hq, rfl, rfl, rfl, rfl⟩ := h
      refine ⟨300, ?_⟩
      show ((((nI de) + (nI ie)) ≤ 0 → (∃ k1, k1 < (dfm R n q + 13) ∧ I_d5 t b c F Y R kz S k1 [(0, .inr (.inr (some t))), (1, .inl (nI i)), (2, .inl (nI j)), (3, .inr (.inr (some (Y n 0)))), (4, .inl (nI fi)), (5, .inl (nI si)), (6, .inl (nI de)), (7, .inl (nI ie)), (8, .inl (nI q))] [] S1 (2 + c0) (12 + s0))) ∧ (¬ ((nI de) + (nI ie)) ≤ 0 → (isO S1 15 t ∧ (isO S1 15 t ∧ (pa (mR S1 1509 t) fun a_1 => ∃ v_2 : Int32, (a_1 ∈ mL S1 ∧ ¬ mK S1 a_1 < 16 ∧ mK S1 a_1 < 29 ∧ v_2 = Int32.ofNat (mN S1 a_1) ∨ a_1 = mZ S1 ∧ v_2 = 0) ∧ ((¬ ((4 : Int32) * (mI S1 1510 t)) = v_2 → (∃ k1, k1 < (dfm R n q + 13) ∧ I_dw 0 t b c F Y R kz S k1 [(0, .inr (.inr (some t))), (1, .inl (nI i)), (2, .inl (nI j)), (3, .inr (.inr (some (Y n 0)))), (4, .inl (nI fi)), (5, .inl (nI si)), (6, .inl (nI de)), (7, .inl (nI ie)), (8, .inl (nI q))] [] S1 (2 + c0) (12 + s0))) ∧ (((4 : Int32) * (mI S1 1510 t)) = v_2 → (isO S1 15 t ∧ (isO S1 15 t ∧ (2 = 2 ∧ ((pa (mR S1 1509 t) fun a_3 => (∃ (n_4 : Nat), (8 : Int32) * (mI S1 1510 t) = nI n_4 ∧ ((isO S1 17 a_3 ∧ mN S1 a_3 < n_4 ∧ n_4 ≤ 60000000) ∧ (2 + c0) + 1 ≤ 3 + nc_i (∃ i j n, dfW R b c i j n) (dfC R kz b c) ∧ (12 + s0) + n_4 ≤ 18 + nc_i (∃ i j n, dfW R b c i j n) (dfZ R kz b c) ∧ (∀ (x_6 : Option Nat) (S_5 : MM), (∃ q, q ∉ mL S1 ∧ x_6 = some q ∧ S_5 = cpI S1 a_3 q n_4) → (True ∧ (isO S_5 15 t ∧ (∃ k1, k1 < (dfm R n q + 13) ∧ I_dw 0 t b c F Y R kz S k1 [(0, .inr (.inr (some t))), (1, .inl (nI i)), (2, .inl (nI j)), (3, .inr (.inr (some (Y n 0)))), (4, .inl (nI fi)), (5, .inl (nI si)), (6, .inl (nI de)), (7, .inl (nI ie)), (8, .inl (nI q))] [] (sR S_5 1509 t x_6) ((2 + c0) + 1) ((12 + s0) + n_4)))))))))))))))))))
      obtain ⟨hW, hn, F1, z1, hM, hF⟩ := id hA
      have g : RG S1 F1 (101 + n) (Y n) (R.Q.G n) (R.Q.T n) := (hM 2 n hn).2.1
      have hnm := g.nm
      have hol := g.odl
      have hl := hW.len
      have hql := hT.1
      have cb : b.toNatClampNeg = i := by rw [hW.2.1]; exact nI_clamp (by have := hW.1; omega)
      have cc : c.toNatClampNeg = j := by rw [hW.2.2.2.1]; exact nI_clamp (by have := hW.2.2.1; omega)
      obtain ⟨o1, o2, o3, o4⟩ : hok q (N, Q, fi, si, de, ie) := hT.2.2.2.2.1
      have o1 : N ≤ 32768 := o1
      have o2 : 2 * Q.length + (if de + ie = 0 then 0 else 1) ≤ q := o2
      have o3 : fi + de ≤ q := o3
      have o4 : si + ie ≤ q := o4
      have o5 : N % 4 = 0 := hT.2.2.2.2.2
      have hcl9 := hT.close (by omega) hq
      obtain ⟨m10, m4, m5, m6, m7⟩ := hM 7
      have m10 : mI S1 1510 t = nI Q.length := m10
      have m4 : 4 * Q.length ≤ upF kz 9 N 9 := m4
      rw [upF_s] at m4 m5
      have r9 := hM 1 9 (by decide)
      have n9 : mN S1 (z1 9) = N := (show mN S1 (z1 9) = upF kz 9 N 9 from r9.2.2.2).trans upF_s
      rw [nI_add, m10]
      refine if_le (b := 0) (by omega) (by decide) (fun w => ?_) (fun w => ⟨(hM 0).1, (hM 0).1, pa_i r9.1 ⟨nI N, Or.inl ⟨r9.2.2.1.1, by rw [r9.2.2.1.2]; decide, by rw [r9.2.2.1.2]; decide, by rw [n9]; rfl⟩, ?_⟩⟩)
      · have e0 : de + ie = 0 := by omega
        have e1 : (hcl (N, Q, fi, si, de, ie)).1 = N := if_pos e0
        have e2 : (hcl (N, Q, fi, si, de, ie)).2.1 = Q := if_pos e0
        have e3 : hcC N Q.length (de + ie) = 0 := if_pos e0
        have e4 : hcZ N Q.length (de + ie) = 0 := if_pos e0
        rw [e1, e2, e3, e4, Nat.add_zero, Nat.add_zero] at hcl9
        exact ⟨dfm R n q + 7, by omega, i, j, n, q, N, Q, fi, si, de, ie, c0, s0, rfl, hA, by omega, hcl9, rfl, rfl, rfl, rfl⟩
      · have e0 : ¬ de + ie = 0 := by omega
        have e1 : (hcl (N, Q, fi, si, de, ie)).1 = hcN N Q.length := if_neg e0
        have e2 : (hcl (N, Q, fi, si, de, ie)).2.1 = Q ++ [(fi, de, si, ie)] := if_neg e0
        have e3 : hcC N Q.length (de + ie) = if 4 * Q.length = N then 1 else 0 := if_neg e0
        have e4 : hcZ N Q.length (de + ie) = if 4 * Q.length = N then 2 * N else 0 := if_neg e0
        have e5 : hcN N Q.length = if 4 * Q.length = N then 2 * N else N := rfl
        rw [e1, e2, e3, e4, e5] at hcl9
        rw [nI_mul4 (by omega)]
        refine if_ne (by omega) (by omega) (fun w2 => ?_) (fun w2 => ⟨(hM 0).1, (hM 0).1, rfl, pa_i r9.1 ⟨2 * N, ?_, ⟨r9.2.2.1, by rw [n9]; omega, by omega⟩, ?_, ?_, fun x6 S5 h9 => ?_⟩⟩)
        · rw [if_neg w2, if_neg w2, if_neg w2, Nat.add_zero, Nat.add_zero] at hcl9
          exact ⟨dfm R n q + 12, by omega, i, j, n, q, N, Q, fi, si, de, ie, c0, s0, rfl, ⟨hW, hn, F1, z1, ⟨hM, fun l hl => absurd hl (Nat.not_lt_zero l)⟩, hF⟩, by omega, by omega, hcl9, rfl, rfl, rfl, rfl⟩
        · rw [← w2]
          show nI 8 * nI Q.length = nI (2 * (4 * Q.length))
          unfold nI
          rw [← Int32.ofNat_mul]
          congr 1
          omega
        · rw [if_pos w2, if_pos w2, if_pos w2] at hcl9
          have hx : c0 + 1 ≤ hrC (rfP R i j) (dfO kz) := by
            rcases hcl9 with h | h
            · have := h.2.2.1; omega
            · have := h.2.2.2.1; omega
          rw [nc_it ⟨i, j, n, hW⟩]; unfold dfC; rw [cb, cc]; omega
        · rw [if_pos w2, if_pos w2, if_pos w2] at hcl9
          have hx : s0 + 2 * N ≤ hrZ (rfP R i j) (dfO kz) := by
            rcases hcl9 with h | h
            · have := h.2.2.2.1; omega
            · have := h.2.2.2.2; omega
          rw [nc_it ⟨i, j, n, hW⟩]; unfold dfZ; rw [cb, cc]; omega
        · obtain ⟨q9, hq9, rfl, rfl⟩ := h9
          rw [if_pos w2, if_pos w2, if_pos w2] at hcl9
          have hzt : z1 9 ≠ t := fun e => rK.nt hM (k := 9) (by decide) e.symm
          have hg := (grX.rf (t := t) (z := z1) (n := 2 * N) (hM 12)).sI (k := 9) (q := q9) (hM 0).1.1 (by decide) r9.2.2.1 hzt hq9 rfl
          have M2 := hM.hgr hg (by rw [upF_s]; omega) (by omega)
          rw [upF_up] at M2
          refine ⟨trivial, (M2 0).1, dfm R n q + 12, by omega, i, j, n, q, 2 * N, Q, fi, si, de, ie, c0 + 1, s0 + 2 * N, rfl, ⟨hW, hn, _, _, ⟨M2, fun l hl => absurd hl (Nat.not_lt_zero l)⟩, hF.tr ⟨hg.2.2.2.1, hg.1.mono (fun b _ e => ?_), hg.2.1 _⟩⟩, by omega, by omega, hcl9, rfl, rfl, (Nat.add_assoc ..), (Nat.add_assoc ..)⟩
          have e : b = t := e
          show 100 ≤ (F1 b).1
          rw [e]; exact hM.own
    · cases hm
      obtain ⟨i, j, n, q, N, Q, fi, si, de, ie, c0, s0, rfl, ⟨hW, hn, F1, z1, ⟨hM, hC⟩, hF⟩, hN, hq, hG, rfl, rfl, rfl, rfl⟩ := h
      refine ⟨300, ?_⟩
      show (isO S1 15 t ∧ (isO S1 15 t ∧ (pa (mR S1 1509 t) fun a_1 => isO S1 17 a_1 ∧ inR S1 a_1 ((4 : Int32) * (mI S1 1510 t)) ∧ (∃ k1, k1 < (dfm R n q + (12 - 0)) ∧ I_dw 1 t b c F Y R kz S k1 [(0, .inr (.inr (some t))), (1, .inl (nI i)), (2, .inl (nI j)), (3, .inr (.inr (some (Y n 0)))), (4, .inl (nI fi)), (5, .inl (nI si)), (6, .inl (nI de)), (7, .inl (nI ie)), (8, .inl (nI q))] [] (rI S1 a_1 (upd (eI S1 a_1) ((4 : Int32) * (mI S1 1510 t)).toNatClampNeg (nI fi))) (2 + c0) (12 + s0)))))
      have m10 : mI S1 1510 t = nI Q.length := (hM 7).1
      have r9 := hM 1 9 (by decide)
      have n9 : mN S1 (z1 9) = N := (show mN S1 (z1 9) = upF kz 9 N 9 from r9.2.2.2).trans upF_s
      have n31 : N ≤ 131072 := by have := (hM 7).2.2.2.1; rw [upF_s] at this; exact this
      have kp : Keep (fun c => c = t ∨ ∃ k, k ∈ [9] ∧ c = z1 k) S1 (rI S1 (z1 9) (upd (eI S1 (z1 9)) (4 * Q.length) (nI fi))) := Keep.rI (P := fun c => c = t ∨ ∃ k, k ∈ [9] ∧ c = z1 k) Keep.rf (Or.inr ⟨9, by decide, rfl⟩)
      rw [m10, nI_mul4 (by omega), nI_clamp (by omega)]
      have M2 : MD (rI S1 (z1 9) (upd (eI S1 (z1 9)) (4 * Q.length) (nI fi))) F1 t z1 Y (R.sQ (R.Q.sHu Q)) (upF kz 9 N) := hM.hun kp m10 (by rw [upF_s]; omega) (fun k hk => by
        rw [eI_rI, if_pos rfl, upd, upd, upd, upd, if_neg (by omega), if_neg (by omega), if_neg (by omega), if_neg (by omega)]
        exact (hM 7).2.2.2.2 k hk) (fun f _ => rfl) (fun f => rfl)
      refine ⟨(hM 0).1, (hM 0).1, pa_i r9.1 ⟨r9.2.2.1, inRn n9 (by omega) (by omega), dfm R n q + (12 - 1), by omega, i, j, n, q, N, Q, fi, si, de, ie, c0, s0, rfl, ⟨hW, hn, F1, z1, ⟨M2, fun l hl => ?_⟩, hF.tr ⟨fun _ _ => rfl, hM.wrQ [9] (by decide) kp, rfl⟩⟩, hN, hq, hG, rfl, rfl, rfl, rfl⟩⟩
      rw [eI_rI, if_pos rfl, upd]
      by_cases e : l = 0
      · rw [if_pos (by omega), e]; rfl
      · rw [if_neg (by omega)]
        exact hC l (by omega)
    · cases hm
      obtain ⟨i, j, n, q, N, Q, fi, si, de, ie, c0, s0, rfl, ⟨hW, hn, F1, z1, ⟨hM, hC⟩, hF⟩, hN, hq, hG, rfl, rfl, rfl, rfl⟩ := h
      refine ⟨300, ?_⟩
      show (isO S1 15 t ∧ (isO S1 15 t ∧ (pa (mR S1 1509 t) fun a_1 => isO S1 17 a_1 ∧ inR S1 a_1 (((4 : Int32) * (mI S1 1510 t)) + (1 : Int32)) ∧ (∃ k1, k1 < (dfm R n q + 11) ∧ I_dw 2 t b c F Y R kz S k1 [(0, .inr (.inr (some t))), (1, .inl (nI i)), (2, .inl (nI j)), (3, .inr (.inr (some (Y n 0)))), (4, .inl (nI fi)), (5, .inl (nI si)), (6, .inl (nI de)), (7, .inl (nI ie)), (8, .inl (nI q))] [] (rI S1 a_1 (upd (eI S1 a_1) (((4 : Int32) * (mI S1 1510 t)) + (1 : Int32)).toNatClampNeg (nI de))) (2 + c0) (12 + s0)))))
      have m10 : mI S1 1510 t = nI Q.length := (hM 7).1
      have r9 := hM 1 9 (by decide)
      have n9 : mN S1 (z1 9) = N := (show mN S1 (z1 9) = upF kz 9 N 9 from r9.2.2.2).trans upF_s
      have n31 : N ≤ 131072 := by have := (hM 7).2.2.2.1; rw [upF_s] at this; exact this
      have kp : Keep (fun c => c = t ∨ ∃ k, k ∈ [9] ∧ c = z1 k) S1 (rI S1 (z1 9) (upd (eI S1 (z1 9)) (4 * Q.length + 1) (nI de))) := Keep.rI (P := fun c => c = t ∨ ∃ k, k ∈ [9] ∧ c = z1 k) Keep.rf (Or.inr ⟨9, by decide, rfl⟩)
      rw [m10, nI_mul4 (by omega), show (nI (4 * Q.length) + (1 : Int32)) = nI (4 * Q.length + 1) from nI_add (4 * Q.length) 1, nI_clamp (by omega)]
      have M2 : MD (rI S1 (z1 9) (upd (eI S1 (z1 9)) (4 * Q.length + 1) (nI de))) F1 t z1 Y (R.sQ (R.Q.sHu Q)) (upF kz 9 N) := hM.hun kp m10 (by rw [upF_s]; omega) (fun k hk => by
        rw [eI_rI, if_pos rfl, upd, upd, upd, upd, if_neg (by omega), if_neg (by omega), if_neg (by omega), if_neg (by omega)]
        exact (hM 7).2.2.2.2 k hk) (fun f _ => rfl) (fun f => rfl)
      refine ⟨(hM 0).1, (hM 0).1, pa_i r9.1 ⟨r9.2.2.1, inRn n9 (by omega) (by omega), dfm R n q + (12 - 2), by omega, i, j, n, q, N, Q, fi, si, de, ie, c0, s0, rfl, ⟨hW, hn, F1, z1, ⟨M2, fun l hl => ?_⟩, hF.tr ⟨fun _ _ => rfl, hM.wrQ [9] (by decide) kp, rfl⟩⟩, hN, hq, hG, rfl, rfl, rfl, rfl⟩⟩
      rw [eI_rI, if_pos rfl, upd]
      by_cases e : l = 1
      · rw [if_pos (by omega), e]; rfl
      · rw [if_neg (by omega)]
        exact hC l (by omega)
    · cases hm
      obtain ⟨i, j, n, q, N, Q, fi, si, de, ie, c0, s0, rfl, ⟨hW, hn, F1, z1, ⟨hM, hC⟩, hF⟩, hN, hq, hG, rfl, rfl, rfl, rfl⟩ := h
      refine ⟨300, ?_⟩
      show (isO S1 15 t ∧ (isO S1 15 t ∧ (pa (mR S1 1509 t) fun a_1 => isO S1 17 a_1 ∧ inR S1 a_1 (((4 : Int32) * (mI S1 1510 t)) + (2 : Int32)) ∧ (∃ k1, k1 < (dfm R n q + 10) ∧ I_dw 3 t b c F Y R kz S k1 [(0, .inr (.inr (some t))), (1, .inl (nI i)), (2, .inl (nI j)), (3, .inr (.inr (some (Y n 0)))), (4, .inl (nI fi)), (5, .inl (nI si)), (6, .inl (nI de)), (7, .inl (nI ie)), (8, .inl (nI q))] [] (rI S1 a_1 (upd (eI S1 a_1) (((4 : Int32) * (mI S1 1510 t)) + (2 : Int32)).toNatClampNeg (nI si))) (2 + c0) (12 + s0)))))
      have m10 : mI S1 1510 t = nI Q.length := (hM 7).1
      have r9 := hM 1 9 (by decide)
      have n9 : mN S1 (z1 9) = N := (show mN S1 (z1 9) = upF kz 9 N 9 from r9.2.2.2).trans upF_s
      have n31 : N ≤ 131072 := by have := (hM 7).2.2.2.1; rw [upF_s] at this; exact this
      have kp : Keep (fun c => c = t ∨ ∃ k, k ∈ [9] ∧ c = z1 k) S1 (rI S1 (z1 9) (upd (eI S1 (z1 9)) (4 * Q.length + 2) (nI si))) := Keep.rI (P := fun c => c = t ∨ ∃ k, k ∈ [9] ∧ c = z1 k) Keep.rf (Or.inr ⟨9, by decide, rfl⟩)
      rw [m10, nI_mul4 (by omega), show (nI (4 * Q.length) + (2 : Int32)) = nI (4 * Q.length + 2) from nI_add (4 * Q.length) 2, nI_clamp (by omega)]
      have M2 : MD (rI S1 (z1 9) (upd (eI S1 (z1 9)) (4 * Q.length + 2) (nI si))) F1 t z1 Y (R.sQ (R.Q.sHu Q)) (upF kz 9 N) := hM.hun kp m10 (by rw [upF_s]; omega) (fun k hk => by
        rw [eI_rI, if_pos rfl, upd, upd, upd, upd, if_neg (by omega), if_neg (by omega), if_neg (by omega), if_neg (by omega)]
        exact (hM 7).2.2.2.2 k hk) (fun f _ => rfl) (fun f => rfl)
      refine ⟨(hM 0).1, (hM 0).1, pa_i r9.1 ⟨r9.2.2.1, inRn n9 (by omega) (by omega), dfm R n q + (12 - 3), by omega, i, j, n, q, N, Q, fi, si, de, ie, c0, s0, rfl, ⟨hW, hn, F1, z1, ⟨M2, fun l hl => ?_⟩, hF.tr ⟨fun _ _ => rfl, hM.wrQ [9] (by decide) kp, rfl⟩⟩, hN, hq, hG, rfl, rfl, rfl, rfl⟩⟩
      rw [eI_rI, if_pos rfl, upd]
      by_cases e : l = 2
      · rw [if_pos (by omega), e]; rfl
      · rw [if_neg (by omega)]
        exact hC l (by omega)
    · cases hm
      obtain ⟨i, j, n, q, N, Q, fi, si, de, ie, c0, s0, rfl, ⟨hW, hn, F1, z1, ⟨hM, hC⟩, hF⟩, hN, hq, hG, rfl, rfl, rfl, rfl⟩ := h
      refine ⟨300, ?_⟩
      show (isO S1 15 t ∧ (isO S1 15 t ∧ (pa (mR S1 1509 t) fun a_1 => isO S1 17 a_1 ∧ inR S1 a_1 (((4 : Int32) * (mI S1 1510 t)) + (3 : Int32)) ∧ (∃ k1, k1 < (dfm R n q + 9) ∧ I_dw 4 t b c F Y R kz S k1 [(0, .inr (.inr (some t))), (1, .inl (nI i)), (2, .inl (nI j)), (3, .inr (.inr (some (Y n 0)))), (4, .inl (nI fi)), (5, .inl (nI si)), (6, .inl (nI de)), (7, .inl (nI ie)), (8, .inl (nI q))] [] (rI S1 a_1 (upd (eI S1 a_1) (((4 : Int32) * (mI S1 1510 t)) + (3 : Int32)).toNatClampNeg (nI ie))) (2 + c0) (12 + s0)))))
      have m10 : mI S1 1510 t = nI Q.length := (hM 7).1
      have r9 := hM 1 9 (by decide)
      have n9 : mN S1 (z1 9) = N := (show mN S1 (z1 9) = upF kz 9 N 9 from r9.2.2.2).trans upF_s
      have n31 : N ≤ 131072 := by have := (hM 7).2.2.2.1; rw [upF_s] at this; exact this
      have kp : Keep (fun c => c = t ∨ ∃ k, k ∈ [9] ∧ c = z1 k) S1 (rI S1 (z1 9) (upd (eI S1 (z1 9)) (4 * Q.length + 3) (nI ie))) := Keep.rI (P := fun c => c = t ∨ ∃ k, k ∈ [9] ∧ c = z1 k) Keep.rf (Or.inr ⟨9, by decide, rfl⟩)
      rw [m10, nI_mul4 (by omega), show (nI (4 * Q.length) + (3 : Int32)) = nI (4 * Q.length + 3) from nI_add (4 * Q.length) 3, nI_clamp (by omega)]
      have M2 : MD (rI S1 (z1 9) (upd (eI S1 (z1 9)) (4 * Q.length + 3) (nI ie))) F1 t z1 Y (R.sQ (R.Q.sHu Q)) (upF kz 9 N) := hM.hun kp m10 (by rw [upF_s]; omega) (fun k hk => by
        rw [eI_rI, if_pos rfl, upd, upd, upd, upd, if_neg (by omega), if_neg (by omega), if_neg (by omega), if_neg (by omega)]
        exact (hM 7).2.2.2.2 k hk) (fun f _ => rfl) (fun f => rfl)
      refine ⟨(hM 0).1, (hM 0).1, pa_i r9.1 ⟨r9.2.2.1, inRn n9 (by omega) (by omega), dfm R n q + (12 - 4), by omega, i, j, n, q, N, Q, fi, si, de, ie, c0, s0, rfl, ⟨hW, hn, F1, z1, ⟨M2, fun l hl => ?_⟩, hF.tr ⟨fun _ _ => rfl, hM.wrQ [9] (by decide) kp, rfl⟩⟩, hN, hq, hG, rfl, rfl, rfl, rfl⟩⟩
      rw [eI_rI, if_pos rfl, upd]
      by_cases e : l = 3
      · rw [if_pos (by omega), e]; rfl
      · rw [if_neg (by omega)]
        exact hC l (by omega)
    · cases hm
      obtain ⟨i, j, n, q, N, Q, fi, si, de, ie, c0, s0, rfl, ⟨hW, hn, F1, z1, ⟨hM, hC⟩, hF⟩, hN, hq, hG, rfl, rfl, rfl, rfl⟩ := h
      refine ⟨300, ?_⟩
      show (isO S1 15 t ∧ (True ∧ (isO S1 15 t ∧ (∃ k1, k1 < (dfm R n q + (12 - 4)) ∧ I_d5 t b c F Y R kz S k1 [(0, .inr (.inr (some t))), (1, .inl (nI i)), (2, .inl (nI j)), (3, .inr (.inr (some (Y n 0)))), (4, .inl (nI fi)), (5, .inl (nI si)), (6, .inl (nI de)), (7, .inl (nI ie)), (8, .inl (nI q))] [] (sI S1 1510 t ((mI S1 1510 t) + (1 : Int32))) (2 + c0) (12 + s0)))))
      have m10 : mI S1 1510 t = nI Q.length := (hM 7).1
      have kp : Keep (fun c => c = t ∨ ∃ k, k ∈ [9] ∧ c = z1 k) S1 (sI S1 1510 t (nI (Q.length + 1))) := Keep.sI (P := fun c => c = t ∨ ∃ k, k ∈ [9] ∧ c = z1 k) Keep.rf (Or.inl rfl)
      rw [m10, nI_1]
      have hl : (Q ++ [(fi, de, si, ie)]).length = Q.length + 1 := by rw [List.length_append, List.length_singleton]
      have M2 : MD (sI S1 1510 t (nI (Q.length + 1))) F1 t z1 Y (R.sQ (R.Q.sHu (Q ++ [(fi, de, si, ie)]))) (upF kz 9 N) := hM.hun kp (by rw [mI_sI, if_pos ⟨rfl, rfl⟩, hl]) (by rw [upF_s, hl]; omega) (fun k hk => by
        rw [hl] at hk
        show eI S1 (z1 9) (4 * k) = _ ∧ eI S1 (z1 9) (4 * k + 1) = _ ∧ eI S1 (z1 9) (4 * k + 2) = _ ∧ eI S1 (z1 9) (4 * k + 3) = _
        rcases Nat.lt_or_ge k Q.length with q | q
        · rw [show (Q ++ [(fi, de, si, ie)]).getD k (0, 0, 0, 0) = Q.getD k (0, 0, 0, 0) from by rw [List.getD_eq_getElem?_getD, List.getElem?_append_left q, ← List.getD_eq_getElem?_getD]]
          exact (hM 7).2.2.2.2 k q
        · have ek : k = Q.length := by omega
          subst ek
          rw [show (Q ++ [(fi, de, si, ie)]).getD Q.length (0, 0, 0, 0) = (fi, de, si, ie) from by rw [List.getD_eq_getElem?_getD, List.getElem?_append_right (Nat.le_refl _), Nat.sub_self]; rfl]
          exact ⟨hC 0 (by decide), hC 1 (by decide), hC 2 (by decide), hC 3 (by decide)⟩) (fun f hf => by rw [mI_sI, if_neg (fun e => hf e.1)]) (fun f => rfl)
      exact ⟨(hM 0).1, trivial, (hM 0).1, dfm R n q + 7, by omega, i, j, n, q, N, _, fi, si, de, ie, c0, s0, rfl, ⟨hW, hn, F1, z1, M2, hF.tr ⟨fun _ _ => rfl, hM.wrQ [9] (by decide) kp, by rw [mI_sI, if_neg (fun e => absurd e.1 (by decide))]⟩⟩, hq, hG, rfl, rfl, rfl, rfl⟩
    · cases hm
      obtain ⟨i, j, n, q, N, Q, fi, si, de, ie, c0, s0, rfl, hA, hq, hG, rfl, rfl, rfl, rfl⟩ := h
      refine ⟨300, ?_⟩
      show (∃ k1, k1 < (dfm R n q + 7) ∧ I_d6 t b c F Y R kz S k1 [(0, .inr (.inr (some t))), (1, .inl (nI i)), (2, .inl (nI j)), (3, .inr (.inr (some (Y n 0)))), (4, .inl ((nI fi) + ((nI de) + (1 : Int32)))), (5, .inl ((nI si) + ((nI ie) + (1 : Int32)))), (6, .inl (0 : Int32)), (7, .inl (0 : Int32)), (8, .inl (nI q))] [] S1 (2 + c0) (12 + s0))
      rw [nI_1, nI_1, nI_add, nI_add]
      exact ⟨dfm R n q + 6, by omega, i, j, n, q, N, Q, fi + (de + 1), si + (ie + 1), 0, 0, c0, s0, rfl, hA, hq, hG, rfl, rfl, rfl, rfl⟩
    · cases hm
      obtain ⟨i, j, n, q, N, Q, fi, si, de, ie, c0, s0, rfl, hA, hq, hG, rfl, rfl, rfl, rfl⟩ := h
      refine ⟨300, ?_⟩
      show (∃ k1, k1 < (dfm R n q + 6) ∧ I_d2 t b c F Y R kz S k1 [(0, .inr (.inr (some t))), (1, .inl (nI i)), (2, .inl (nI j)), (3, .inr (.inr (some (Y n 0)))), (4, .inl (nI fi)), (5, .inl (nI si)), (6, .inl (nI de)), (7, .inl (nI ie)), (8, .inl ((nI q) + (1 : Int32)))] [] S1 (2 + c0) (12 + s0))
      rw [nI_1]
      exact ⟨dfm R n (q + 1) + 19, dfm_s hq (by decide), i, j, n, q + 1, N, Q, fi, si, de, ie, c0, s0, rfl, hA, hG, rfl, rfl, rfl, rfl⟩
theorem u_rdf02 (l : Launch) (hlt : l.stackTraces = false) : UsX l yX14_differ0 (Cond.code yX14_differ0 cX14_differ0 12 (some .int)) (some .int) 7 109 15 T_rdf02 := by
  intro Rc Rs av S cs sl K Kx h
  unfold T_rdf02 at h
  split at h
  · rename_i t_o b c
    obtain ⟨t, rfl, h_1⟩ := pa_of h
    obtain ⟨F, z, Y, R, kz, hp, hc, hs, hk, hx0, hx1, hx2⟩ := h_1
    refine ⟨(sp_rdf02 t b c F z Y R kz), c_rdf02 l hlt t b c F z Y R kz, fun _ _ h9 => ⟨_, _, h9.1, (h9.2.1 0).1⟩, ⟨rfl, hp⟩, hc, hs, fun v9 S' h8 => by
      obtain ⟨v8, h7, h8⟩ := h8
      cases h7
      exact hk _ _ h8, fun _ _ q => by
      rcases q with ⟨rfl, q⟩ | ⟨rfl, q⟩ | ⟨rfl, q⟩
      · obtain ⟨q, rfl⟩ := q
        exact hx0 q
      · obtain ⟨q, rfl⟩ := q
        exact hx1 q
      · obtain ⟨q, rfl⟩ := q
        exact hx2 q⟩
  · exact h.elim
def T_rdf12 : TR := fun Rc Rs av S cs sl K _Kx => match av with
  | [.inr (.inr t_o), .inl b, .inl c] => pa t_o fun t => (∃ (F : Nat → Nat × Nat) (z : Nat → Nat) (Y : Nat → Nat → Nat) (R : Rb) (kz : Nat → Nat), (MD S F t z Y R kz ∧ hkD kz) ∧ cs + (3 + nc_i (∃ i j n, dfW R b c i j n) (dfC R kz b c)) ≤ Rc ∧ sl + (18 + nc_i (∃ i j n, dfW R b c i j n) (dfZ R kz b c)) ≤ Rs ∧ (∀ (v : Int32) (S' : MM), (dfV S S' F t R kz b c v ∨ ((np 8 b ∨ np 8 c) ∧ v = 0 ∧ mdW S S' F t R kz 1) ∨ ((∃ i j, i < 8 ∧ b = nI i ∧ j < 8 ∧ c = nI j ∧ (R.Q.mp i = none ∨ R.Q.mp j = none)) ∧ v = 0 ∧ mdW S S' F t R kz 2) ∨ ((∃ i j p q, i < 8 ∧ b = nI i ∧ j < 8 ∧ c = nI j ∧ R.Q.mp i = some p ∧ R.Q.mp j = some q ∧ p ≠ q) ∧ v = 0 ∧ mdW S S' F t R kz 3)) → K (some (.inl v)) S' (cs + (3 + nc_i (∃ i j n, dfW R b c i j n) (dfC R kz b c))) (sl + (18 + nc_i (∃ i j n, dfW R b c i j n) (dfZ R kz b c)))))
  | _ => False
noncomputable def sp_rdf12 (t : Nat) (b : Int32) (c : Int32) (F : Nat → Nat × Nat) (z : Nat → Nat) (Y : Nat → Nat → Nat) (R : Rb) (kz : Nat → Nat) : Sp := (fun av S => av = [.inr (.inr (some t)), .inl b, .inl c] ∧ (MD S F t z Y R kz ∧ hkD kz), fun _ S => 3 + nc_i (∃ i j n, dfW R b c i j n) (dfC R kz b c), fun _ S => 18 + nc_i (∃ i j n, dfW R b c i j n) (dfZ R kz b c), fun _ S rv S' => ∃ v, rv = (some (.inl v)) ∧ (dfV S S' F t R kz b c v ∨ ((np 8 b ∨ np 8 c) ∧ v = 0 ∧ mdW S S' F t R kz 1) ∨ ((∃ i j, i < 8 ∧ b = nI i ∧ j < 8 ∧ c = nI j ∧ (R.Q.mp i = none ∨ R.Q.mp j = none)) ∧ v = 0 ∧ mdW S S' F t R kz 2) ∨ ((∃ i j p q, i < 8 ∧ b = nI i ∧ j < 8 ∧ c = nI j ∧ R.Q.mp i = some p ∧ R.Q.mp j = some q ∧ p ≠ q) ∧ v = 0 ∧ mdW S S' F t R kz 3)), fun _ _ _ _ => False)
set_option maxRecDepth 100000 in
set_option maxHeartbeats 2000000 in
theorem c_rdf12 (l : Launch) (hlt : l.stackTraces = false) : ∀ (t : Nat) (b : Int32) (c : Int32) (F : Nat → Nat × Nat) (z : Nat → Nat) (Y : Nat → Nat → Nat) (R : Rb) (kz : Nat → Nat), CtX l yX14_differ (Cond.codeWith yX14_differ cX14_differ 4 (some .int) [(5, 11, 12, 138), (5, 11, 21, 141), (5, 11, 30, 170)]) (some .int) 8 140 (sp_rdf12 t b c F z Y R kz) := by
  intro t b c F z Y R kz
  refine CtX.ofH hlt (fX14, nX14, aX14, iX14, lX14, [(570, 0, 3, 1, T_rdf02)], qX14, gX14, []) false tX14_differ [((5, 11, 12, 138), 1), ((5, 11, 21, 141), 2), ((5, 11, 30, 170), 3)] (fun _ _ _ => none) (by decide) (by decide) kX14_differ ⟨_, _, rfl⟩ fX14_ok nX14_ok aX14_ok iX14_ok lX14_ok (fun p e R s m args below meth c Q D cy z r A C hR1 hR2 => List.forall_mem_cons.mpr ⟨cOK_use (fun _ _ _ _ _ _ _ _ h => let ⟨sp, h1, h2, h3⟩ := u_rdf02 l hlt _ _ _ _ _ _ _ _ h; ⟨sp, cOKx_V C h1 vX14_differ_570 ⟨by decide, by decide, by decide +kernel⟩ ⟨by rw [hR1]; decide, by rw [hR2]; decide⟩ (k := 15) (T := TX14) (N := 52) rfl (by decide) h2, h3⟩), fun _ h => absurd h List.not_mem_nil⟩) qX14_ok gX14_ok rfl (List.forall_mem_cons.mpr ⟨⟨by decide, mgd 1925 (by decide +kernel) (by decide +kernel)⟩, List.forall_mem_cons.mpr ⟨⟨by decide, mgd 2061 (by decide +kernel) (by decide +kernel)⟩, List.forall_mem_cons.mpr ⟨⟨by decide, mgd 1941 (by decide +kernel) (by decide +kernel)⟩, fun _ h => absurd h List.not_mem_nil⟩⟩⟩) (fun _ _ _ _ z => z) ?_ ?_
  · rintro _ S ⟨rfl, hp⟩
    refine ⟨Nat.le_of_ble_eq_true rfl, 300, ?_⟩
    show (True ∧ (isO S 15 t ∧ (0 = 0 ∧ (∃ (F_1 : Nat → Nat × Nat) (z_2 : Nat → Nat) (Y_3 : Nat → Nat → Nat) (R_4 : Rb) (kz_5 : Nat → Nat), (MD (sI S 1551 t (0 : Int32)) F_1 t z_2 Y_3 R_4 kz_5 ∧ hkD kz_5) ∧ 0 + (3 + nc_i (∃ i j n, dfW R_4 b c i j n) (dfC R_4 kz_5 b c)) ≤ 3 + nc_i (∃ i j n, dfW R b c i j n) (dfC R kz b c) ∧ 0 + (18 + nc_i (∃ i j n, dfW R_4 b c i j n) (dfZ R_4 kz_5 b c)) ≤ 18 + nc_i (∃ i j n, dfW R b c i j n) (dfZ R kz b c) ∧ ((∀ (x_7 : Int32) (S_6 : MM), (dfQ (sI S 1551 t (0 : Int32)) S_6 F_1 t R_4 kz_5 b c x_7) → (([] : List MV) = [] ∧ mret (some .int) (sp_rdf12 t b c F z Y R kz) [.inr (.inr (some t)), .inl b, .inl c] S (some (.inl x_7)) S_6 (0 + (3 + nc_i (∃ i j n, dfW R_4 b c i j n) (dfC R_4 kz_5 b c))) (0 + (18 + nc_i (∃ i j n, dfW R_4 b c i j n) (dfZ R_4 kz_5 b c))))) ∧ ((np 8 b ∨ np 8 c) → (∀ e_9, (True ∧ (isO (sI S 1551 t (0 : Int32)) 15 t ∧ (([] : List MV) = [] ∧ mret (some .int) (sp_rdf12 t b c F z Y R kz) [.inr (.inr (some t)), .inl b, .inl c] S (some (.inl (0 : Int32))) (sI (sI S 1551 t (0 : Int32)) 1551 t (1 : Int32)) (0 + (3 + nc_i (∃ i j n, dfW R_4 b c i j n) (dfC R_4 kz_5 b c))) (0 + (18 + nc_i (∃ i j n, dfW R_4 b c i j n) (dfZ R_4 kz_5 b c)))))))) ∧ ((∃ i j, i < 8 ∧ b = nI i ∧ j < 8 ∧ c = nI j ∧ (R_4.Q.mp i = none ∨ R_4.Q.mp j = none)) → (∀ e_11, (True ∧ (isO (sI S 1551 t (0 : Int32)) 15 t ∧ (([] : List MV) = [] ∧ mret (some .int) (sp_rdf12 t b c F z Y R kz) [.inr (.inr (some t)), .inl b, .inl c] S (some (.inl (0 : Int32))) (sI (sI S 1551 t (0 : Int32)) 1551 t (2 : Int32)) (0 + (3 + nc_i (∃ i j n, dfW R_4 b c i j n) (dfC R_4 kz_5 b c))) (0 + (18 + nc_i (∃ i j n, dfW R_4 b c i j n) (dfZ R_4 kz_5 b c)))))))) ∧ ((∃ i j p q, i < 8 ∧ b = nI i ∧ j < 8 ∧ c = nI j ∧ R_4.Q.mp i = some p ∧ R_4.Q.mp j = some q ∧ p ≠ q) → (∀ e_13, (True ∧ (isO (sI S 1551 t (0 : Int32)) 15 t ∧ (([] : List MV) = [] ∧ mret (some .int) (sp_rdf12 t b c F z Y R kz) [.inr (.inr (some t)), .inl b, .inl c] S (some (.inl (0 : Int32))) (sI (sI S 1551 t (0 : Int32)) 1551 t (3 : Int32)) (0 + (3 + nc_i (∃ i j n, dfW R_4 b c i j n) (dfC R_4 kz_5 b c))) (0 + (18 + nc_i (∃ i j n, dfW R_4 b c i j n) (dfZ R_4 kz_5 b c)))))))))))))
    obtain ⟨hp, hA⟩ := hp
    refine ⟨trivial, (hp 0).1, rfl, F, z, Y, R, kz, ⟨hp.th 0, hA⟩, Nat.le_of_eq (Nat.zero_add _), Nat.le_of_eq (Nat.zero_add _), fun v S3 h => ?_, fun h e => ⟨trivial, (hp 0).1, rfl, trivial, ⟨_, rfl, Or.inr (Or.inl ⟨h, rfl, (hp.ex0 1 rfl).w hp⟩)⟩, Nat.le_of_eq (Nat.zero_add _), Nat.le_of_eq (Nat.zero_add _)⟩, fun h e => ⟨trivial, (hp 0).1, rfl, trivial, ⟨_, rfl, Or.inr (Or.inr (Or.inl ⟨h, rfl, (hp.ex0 2 rfl).w hp⟩))⟩, Nat.le_of_eq (Nat.zero_add _), Nat.le_of_eq (Nat.zero_add _)⟩, fun h e => ⟨trivial, (hp 0).1, rfl, trivial, ⟨_, rfl, Or.inr (Or.inr (Or.inr ⟨h, rfl, (hp.ex0 3 rfl).w hp⟩))⟩, Nat.le_of_eq (Nat.zero_add _), Nat.le_of_eq (Nat.zero_add _)⟩⟩
    obtain ⟨i, j, n, g0, g1, g2⟩ := h
    exact ⟨rfl, trivial, ⟨_, rfl, Or.inl ⟨i, j, n, g0, g1, g2.ok hp⟩⟩, Nat.le_of_eq (Nat.zero_add _), Nat.le_of_eq (Nat.zero_add _)⟩
  · exact fun _ _ _ _ _ h => by cases h
theorem u_rdf12 (l : Launch) (hlt : l.stackTraces = false) : UsX l yX14_differ (Cond.codeWith yX14_differ cX14_differ 4 (some .int) [(5, 11, 12, 138), (5, 11, 21, 141), (5, 11, 30, 170)]) (some .int) 8 140 15 T_rdf12 := by
  intro Rc Rs av S cs sl K Kx h
  unfold T_rdf12 at h
  split at h
  · rename_i t_o b c
    obtain ⟨t, rfl, h_1⟩ := pa_of h
    obtain ⟨F, z, Y, R, kz, hp, hc, hs, hk⟩ := h_1
    refine ⟨(sp_rdf12 t b c F z Y R kz), c_rdf12 l hlt t b c F z Y R kz, fun _ _ h9 => ⟨_, _, h9.1, (h9.2.1 0).1⟩, ⟨rfl, hp⟩, hc, hs, fun v9 S' h8 => by
      obtain ⟨v8, h7, h8⟩ := h8
      cases h7
      exact hk _ _ h8, fun _ _ q => q.elim⟩
  · exact h.elim
