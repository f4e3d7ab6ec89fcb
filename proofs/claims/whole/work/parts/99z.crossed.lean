/-! ===== crossed ===== -/
def cxR (Q : Ab) (p : Nat) : Nat → Nat
  | 0 => 0
  | q + 1 => cxR Q p q + (if p < q then crs (Q.G p) (Q.T p) (Q.G q) (Q.T q) else 0)
def cxT (Q : Ab) : Nat → Nat
  | 0 => 0
  | p + 1 => cxT Q p + cxR Q p 4
theorem cxR_0 {Q : Ab} {p : Nat} : ∀ {q : Nat}, q ≤ p + 1 → cxR Q p q = 0
  | 0, _ => rfl
  | q + 1, h => by rw [cxR, cxR_0 (by omega), if_neg (by omega)]
def I_cx (t : Nat) (F : Nat → Nat × Nat) (X : Nat → GX) (kz : Nat → Nat) (Q : Ab) (S : MM) (k : Nat) : KT := fun lo st S1 cs sl => ∃ z p, k = (4 - p) * 10 + 9 ∧ p ≤ 4 ∧ Q.fo = 0 ∧ WTz S1 F t z X kz Q ∧ Keep (fun b => cO (F b).1) S S1 ∧ lo = [(0, .inr (.inr (some t))), (1, .inl (nI (cxT Q p))), (2, .inl (nI p))] ∧ st = [] ∧ cs = 0 ∧ sl = 0
def I_cx2 (t : Nat) (F : Nat → Nat × Nat) (X : Nat → GX) (kz : Nat → Nat) (Q : Ab) (S : MM) (k : Nat) : KT := fun lo st S1 cs sl => ∃ z p q, k = (4 - p) * 10 + (4 - q) ∧ p < q ∧ q ≤ 4 ∧ p < 4 ∧ Q.fo = 0 ∧ WTz S1 F t z X kz Q ∧ Keep (fun b => cO (F b).1) S S1 ∧ lo = [(0, .inr (.inr (some t))), (1, .inl (nI (cxT Q p + cxR Q p q))), (2, .inl (nI p)), (3, .inl (nI q))] ∧ st = [] ∧ cs = 0 ∧ sl = 0
def T_wcx : TR := fun Rc Rs av S cs sl K _Kx => match av with
  | [.inr (.inr t_o)] => pa t_o fun t => (∃ (F : Nat → Nat × Nat) (X : Nat → GX) (kz : Nat → Nat) (Q : Ab), (WT S F t X kz Q) ∧ cs ≤ Rc ∧ sl ≤ Rs ∧ (∀ (v : Int32) (S' : MM), (((Q.fo = 1 ∧ v = -1) ∨ (Q.fo = 0 ∧ v = nI (cxT Q 4))) ∧ wtQ S S' F t X kz Q) → K (some (.inl v)) S' cs sl))
  | _ => False
def sp_wcx (t : Nat) (F : Nat → Nat × Nat) (X : Nat → GX) (kz : Nat → Nat) (Q : Ab) : Sp := (fun av S => av = [.inr (.inr (some t))] ∧ (WT S F t X kz Q), fun _ S => 0, fun _ S => 0, fun _ S rv S' => ∃ v, rv = (some (.inl v)) ∧ (((Q.fo = 1 ∧ v = -1) ∨ (Q.fo = 0 ∧ v = nI (cxT Q 4))) ∧ wtQ S S' F t X kz Q), fun _ _ _ _ => False)
def tX11_crossed : CD := [(0, .aload_n 0), (1, .getfield 33), (4, .ifCond .eq 5), (7, .iconst (-1)), (8, .ireturn), (9, .iconst 0), (10, .istore_n 1), (11, .iconst 0), (12, .istore_n 2), (13, .iload_n 2), (14, .iconst 4), (15, .if_icmp .ge 48), (18, .iload_n 2), (19, .iconst 1), (20, .iadd), (21, .istore_n 3), (22, .iload_n 3), (23, .iconst 4), (24, .if_icmp .ge 33), (27, .iload_n 1), (28, .aload_n 0), (29, .getfield 25), (32, .iload_n 2), (33, .aaload), (34, .getfield 112), (37, .aload_n 0), (38, .getfield 25), (41, .iload_n 3), (42, .aaload), (43, .getfield 112), (46, .invokevirtual 277), (49, .iadd), (50, .istore_n 1), (51, .iinc 3 1), (54, .goto (-32)), (57, .iinc 2 1), (60, .goto (-47)), (63, .iload_n 1), (64, .ireturn)]
set_option maxRecDepth 100000 in
theorem kX11_crossed : chk cX11_crossed tX11_crossed = true := by decide +kernel
theorem vX11_crossed_277 : ∀ w ∈ ([.methodLink RX11 277 yX5_countCrossings, .instanceMethod yX5_countCrossings, .selects yX5_countCrossings.cls yX5_countCrossings yX5_countCrossings, .initialized yX5_countCrossings.cls, .code yX5_countCrossings cX5_countCrossings 7 (some .int)] : List Cond), w ∈ lw_good := List.forall_mem_cons.mpr ⟨mgd 660 (by decide +kernel) (by decide +kernel), List.forall_mem_cons.mpr ⟨mgd 661 (by decide +kernel) (by decide +kernel), List.forall_mem_cons.mpr ⟨mgd 662 (by decide +kernel) (by decide +kernel), List.forall_mem_cons.mpr ⟨mgd 125 (by decide +kernel) (by decide +kernel), List.forall_mem_cons.mpr ⟨mgd 663 (by decide +kernel) (by decide +kernel), fun _ h => absurd h List.not_mem_nil⟩⟩⟩⟩⟩
set_option maxRecDepth 100000 in
set_option maxHeartbeats 2000000 in
theorem c_wcx (l : Launch) (hlt : l.stackTraces = false) : ∀ (t : Nat) (F : Nat → Nat × Nat) (X : Nat → GX) (kz : Nat → Nat) (Q : Ab), CtX l yX11_crossed (Cond.code yX11_crossed cX11_crossed 4 (some .int)) (some .int) 5 112 (sp_wcx t F X kz Q) := by
  intro t F X kz Q
  refine CtX.of hlt (fX11, nX11, aX11, iX11, lX11, [(277, 0, 2, 1, T_gxc)], qX11, gX11, []) false tX11_crossed (fun _ S => look [(13, ([0,1,2], I_cx t F X kz Q S)), (22, ([0,1,2,3], I_cx2 t F X kz Q S))]) (by decide) (by decide) kX11_crossed ⟨_, _, rfl⟩ fX11_ok nX11_ok aX11_ok iX11_ok lX11_ok (fun p e R s m args below meth c Q D cy z r A C hR1 hR2 => List.forall_mem_cons.mpr ⟨cOK_use (fun _ _ _ _ _ _ _ _ h => let ⟨sp, h1, h2, h3⟩ := u_gxc l _ _ _ _ _ _ _ _ h; ⟨sp, cOK_V C h1 vX11_crossed_277 ⟨by decide, by decide, by decide +kernel⟩ ⟨by rw [hR1]; decide, by rw [hR2]; decide⟩ (k := 6) (T := TX5) (N := 12) rfl (by decide) h2, h3⟩), fun _ h => absurd h List.not_mem_nil⟩) qX11_ok gX11_ok (fun _ h => absurd h List.not_mem_nil) ?_ ?_
  · rintro _ S ⟨rfl, hp⟩
    refine ⟨Nat.le_of_ble_eq_true rfl, 300, ?_⟩
    show (isO S 12 t ∧ (((mI S 1207 t) = 0 → (∃ k1, I_cx t F X kz Q S k1 [(0, .inr (.inr (some t))), (1, .inl (0 : Int32)), (2, .inl (0 : Int32))] [] S 0 0)) ∧ (¬ (mI S 1207 t) = 0 → (([] : List MV) = [] ∧ mret (some .int) (sp_wcx t F X kz Q) [.inr (.inr (some t))] S (some (.inl (-1 : Int32))) S 0 0))))
    obtain ⟨z, hz⟩ := hp
    have m7 : mI S 1207 t = nI Q.fo := hz.1.2.1.2.2.1
    have f2 : Q.fo < 2 := hz.1.2.1.2.2.2.1
    rw [m7]
    refine ⟨hz.1.1.1, fun q => ⟨_, z, 0, rfl, by decide, (nI_eq (by omega) (by decide)).1 q, hz, Keep.rf, rfl, rfl, rfl, rfl⟩, fun q => ⟨rfl, trivial, ⟨_, rfl, Or.inl ⟨?_, rfl⟩, F, ⟨z, hz⟩, fun _ _ => rfl, Keep.rf⟩, Nat.zero_le _, Nat.zero_le _⟩⟩
    have : Q.fo ≠ 0 := fun e => q (by rw [e]; rfl)
    omega
  · intro av S hpre pc I hI k lo st S1 cs sl h
    obtain ⟨rfl, hp⟩ := hpre
    have hm := look_in hI
    simp only [List.mem_cons, List.not_mem_nil, or_false] at hm
    rcases hm with hm | hm
    · cases hm
      obtain ⟨z, p, rfl, hp4, hfo, hz, hk, rfl, rfl, rfl, rfl⟩ := h
      refine ⟨300, ?_⟩
      show (((4 : Int32) ≤ (nI p) → (([] : List MV) = [] ∧ mret (some .int) (sp_wcx t F X kz Q) [.inr (.inr (some t))] S (some (.inl (nI (cxT Q p)))) S1 0 0)) ∧ (¬ (4 : Int32) ≤ (nI p) → (∃ k1, k1 < (4 - p) * 10 + 9 ∧ I_cx2 t F X kz Q S k1 [(0, .inr (.inr (some t))), (1, .inl (nI (cxT Q p))), (2, .inl (nI p)), (3, .inl ((nI p) + (1 : Int32)))] [] S1 0 0)))
      refine if_le (a := 4) (b := p) (by decide) (by omega) (fun h4 => ?_) (fun h4 => ?_)
      · have : p = 4 := by omega
        subst this
        exact ⟨rfl, trivial, ⟨_, rfl, Or.inr ⟨hfo, rfl⟩, F, ⟨z, hz⟩, fun _ _ => rfl, hk⟩, Nat.zero_le _, Nat.zero_le _⟩
      · exact ⟨(4 - p) * 10 + (4 - (p + 1)), by omega, z, p, p + 1, rfl, by omega, by omega, h4, hfo, hz, hk, by rw [cxR_0 (Nat.le_refl _), nI_1]; rfl, rfl, rfl, rfl⟩
    · cases hm
      obtain ⟨z, p, q, rfl, hpq, hq4, hp4, hfo, hz, hk, rfl, rfl, rfl, rfl⟩ := h
      refine ⟨300, ?_⟩
      show (((4 : Int32) ≤ (nI q) → (∃ k1, k1 < (4 - p) * 10 + (4 - q) ∧ I_cx t F X kz Q S k1 [(0, .inr (.inr (some t))), (1, .inl (nI (cxT Q p + cxR Q p q))), (2, .inl ((nI p) + (1 : Int32)))] [] S1 0 0)) ∧ (¬ (4 : Int32) ≤ (nI q) → (isO S1 12 t ∧ (pa (mR S1 1203 t) fun a_1 => a_1 ∈ mL S1 ∧ ¬ mK S1 a_1 < 21 ∧ mK S1 a_1 < 29 ∧ inR S1 a_1 (nI p) ∧ (pa (eR S1 a_1 (nI p).toNatClampNeg) fun a_2 => isO S1 11 a_2 ∧ (isO S1 12 t ∧ (pa (mR S1 1203 t) fun a_3 => a_3 ∈ mL S1 ∧ ¬ mK S1 a_3 < 21 ∧ mK S1 a_3 < 29 ∧ inR S1 a_3 (nI q) ∧ (pa (eR S1 a_3 (nI q).toNatClampNeg) fun a_4 => isO S1 11 a_4 ∧ (0 = 0 ∧ ((pa (mR S1 1101 a_2) fun a_5 => ((pa (mR S1 1101 a_4) fun a_6 => (∃ (F_7 : Nat → Nat × Nat) (i1_8 i2_9 : Nat) (A1_10 A2_11 : Nat → Nat) (X1_12 X2_13 : GX) (G1_14 G2_15 : Gr) (T1_16 T2_17 : Tr) (H1_18 H2_19 : List Nat) (W1_20 W2_21 : Nat → Nat), (a_5 = A1_10 0 ∧ a_6 = A2_11 0 ∧ GI S1 F_7 i1_8 A1_10 X1_12 G1_14 T1_16 H1_18 W1_20 ∧ GI S1 F_7 i2_9 A2_11 X2_13 G2_15 T2_17 H2_19 W2_21) ∧ 0 ≤ 0 ∧ 0 ≤ 0 ∧ (∀ (S_22 : MM), (∃ μ, S_22 = wI S1 μ ∧ rkF S1 (T2_17.od.map (xa A2_11 X2_13)) μ) → (∃ k1, k1 < (4 - p) * 10 + (4 - q) ∧ I_cx2 t F X kz Q S k1 [(0, .inr (.inr (some t))), (1, .inl ((nI (cxT Q p + cxR Q p q)) + (nI (crs G1_14 T1_16 G2_15 T2_17)))), (2, .inl (nI p)), (3, .inl ((nI q) + (1 : Int32)))] [] S_22 0 0))))))))))))))))
      refine if_le (a := 4) (b := q) (by decide) (by omega) (fun h4 => ?_) (fun h4 => ?_)
      · have : q = 4 := by omega
        subst this
        exact ⟨(4 - (p + 1)) * 10 + 9, by omega, z, p + 1, rfl, by omega, hfo, hz, hk, by rw [nI_1]; rfl, rfl, rfl, rfl⟩
      · obtain ⟨c1, c2, c3, c4⟩ := hz.1.1.2.2.2.2
        have r3 : mR S1 1203 t = some (z 3) := hz.1.1.2.2.1 3 (by decide) (by decide) (by decide) (by decide)
        obtain ⟨A, H, W, r, a', d9, ea, kn, kr, cu, hP⟩ := hz.2.1 p hp4
        obtain ⟨A2, H2, W2, r2, a2', d2, ea2, kn2, kr2, cu2, hP2⟩ := hz.2.1 q h4
        have cp : (nI p).toNatClampNeg = p := nI_clamp (by omega)
        have cq : (nI q).toNatClampNeg = q := nI_clamp (by omega)
        refine ⟨hz.1.1.1, pa_i r3 ⟨c1.1, by rw [c1.2]; decide, by rw [c1.2]; decide, inRn c2 hp4 (by decide), ?_⟩⟩
        rw [cp, c4 p hp4]
        refine ⟨hP.1.1, hz.1.1.1, pa_i r3 ⟨c1.1, by rw [c1.2]; decide, by rw [c1.2]; decide, inRn c2 h4 (by decide), ?_⟩⟩
        rw [cq, c4 q h4]
        refine ⟨hP2.1.1, rfl, pa_i hP.1.2.2.2.1 (pa_i hP2.1.2.2.2.1 ⟨F, p + 1, q + 1, A, A2, X p, X q, Q.G p, Q.G q, Q.T p, Q.T q, H, H2, W, W2, ⟨rfl, rfl, hP.gi, hP2.gi⟩, Nat.le_refl _, Nat.le_refl _, fun S3 h3 => ?_⟩)⟩
        obtain ⟨μ, rfl, hμ⟩ := h3
        have kq : Keep (fun b => (F b).1 = q + 1) S1 (wI S1 μ) := by
          refine ⟨fun b hb => ⟨hb, rfl, rfl⟩, fun b hb hp => ⟨fun j => ?_, fun _ => rfl, fun _ => rfl, rfl, rfl, rfl⟩, rfl, rfl⟩
          exact hμ j b (fun w => hp (by
            obtain ⟨x, hx, e⟩ := List.mem_map.1 w.2
            obtain ⟨k, rfl, hkn, hkc⟩ := hP2.gi.nd hx
            rw [← e]
            show (F ((X q).ad k)).1 = q + 1
            rw [(hP2.gi 11 k hkn).1]))
        have g2 := hP2.gi.rank hμ (fun b hb => by
          obtain ⟨x, hx, rfl⟩ := List.mem_map.1 hb
          exact hP2.gi.x5 (Or.inr hx))
        have wz := hz.touch h4 hP2 g2 rfl kq
        refine ⟨(4 - p) * 10 + (4 - (q + 1)), by omega, z, p, q + 1, rfl, by omega, by omega, hp4, hfo, wz, hk.trN kq (fun b hb e => ?_), ?_, rfl, rfl, rfl⟩
        · show cO (F b).1
          rw [e]; exact cO_g h4
        · rw [nI_add, nI_1, cxR, if_pos hpq, Nat.add_assoc]
theorem u_wcx (l : Launch) (hlt : l.stackTraces = false) : UsX l yX11_crossed (Cond.code yX11_crossed cX11_crossed 4 (some .int)) (some .int) 5 112 12 T_wcx := by
  intro Rc Rs av S cs sl K Kx h
  unfold T_wcx at h
  split at h
  · rename_i t_o
    obtain ⟨t, rfl, h_1⟩ := pa_of h
    obtain ⟨F, X, kz, Q, hp, hc, hs, hk⟩ := h_1
    refine ⟨(sp_wcx t F X kz Q), c_wcx l hlt t F X kz Q, fun _ _ h9 => ⟨_, _, h9.1, h9.2.choose_spec.1.1.1⟩, ⟨rfl, hp⟩, hc, hs, fun v9 S' h8 => by
      obtain ⟨v8, h7, h8⟩ := h8
      cases h7
      exact hk _ _ h8, fun _ _ q => q.elim⟩
  · exact h.elim
