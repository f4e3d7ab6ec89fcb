/-! ===== differ ===== -/
def hpG (G : Gr) (m1 m2 : Nat) (L : List Nat) : List (Nat × Nat) := L.map (fun x => (stM G m1 (x - 1), stM G m2 (x - 1)))
def dfP (Q : Ab) (i j : Nat) : List (Nat × Nat) := match Q.mp i with
  | none => []
  | some p => hpG (Q.G p) (Q.ms i) (Q.ms j) (Q.T p).od
def dfX (kz : Nat → Nat) (Q : Ab) (i j : Nat) : HS := hrun (dfP Q i j) (kz 12, [], 0, 0, 0, 0)
theorem hrun_ok : ∀ {P : List (Nat × Nat)} {x : HS} {n : Nat}, hok n x → n + P.length ≤ 8192 → (∀ p ∈ P, (p.1 = 0 ∨ p.1 = 1) ∧ (p.2 = 0 ∨ p.2 = 1)) → (hrun P x).1 ≤ 32768 ∧ (hrun P x).2.2.2.2.1 = 0 ∧ (hrun P x).2.2.2.2.2 = 0
  | [], x, n, h, hn, _ => ⟨(hok_cl h (by simpa using hn)).1, rfl, rfl⟩
  | p :: P, x, n, h, hn, hp => hrun_ok (P := P) (hok_st h (by simp at hn; omega) (hp p List.mem_cons_self).1 (hp p List.mem_cons_self).2) (by simp at hn ⊢; omega) (fun q hq => hp q (List.mem_cons_of_mem _ hq))
theorem stM_01 {G : Gr} {m k : Nat} : stM G m k = 0 ∨ stM G m k = 1 := by unfold stM; split <;> simp
def T_wdf : TR := fun Rc Rs av S cs sl K Kx => match av with
  | [.inr (.inr t_o), .inl b, .inl c] => pa t_o fun t => (∃ (F : Nat → Nat × Nat) (X : Nat → GX) (kz : Nat → Nat) (Q : Ab), (WT S F t X kz Q ∧ AbM Q) ∧ cs + (hrC (dfP Q b.toNatClampNeg c.toNatClampNeg) (kz 12, [], 0, 0, 0, 0) + 3) ≤ Rc ∧ sl + (hrZ (dfP Q b.toNatClampNeg c.toNatClampNeg) (kz 12, [], 0, 0, 0, 0) + 18) ≤ Rs ∧ ((∀ (v : Int32) (S' : MM), (∃ i j p, i < 8 ∧ b = nI i ∧ j < 8 ∧ c = nI j ∧ Q.mp i = some p ∧ Q.mp j = some p ∧ v = nI (dfX kz Q i j).2.1.length ∧ wtQ S S' F t X (upF kz 12 (dfX kz Q i j).1) (Q.sHu (dfX kz Q i j).2.1)) → K (some (.inl v)) S' (cs + (hrC (dfP Q b.toNatClampNeg c.toNatClampNeg) (kz 12, [], 0, 0, 0, 0) + 3)) (sl + (hrZ (dfP Q b.toNatClampNeg c.toNatClampNeg) (kz 12, [], 0, 0, 0, 0) + 18))) ∧ ((np 8 b ∨ np 8 c) → Kx 1 S (cs + (hrC (dfP Q b.toNatClampNeg c.toNatClampNeg) (kz 12, [], 0, 0, 0, 0) + 3)) (sl + (hrZ (dfP Q b.toNatClampNeg c.toNatClampNeg) (kz 12, [], 0, 0, 0, 0) + 18))) ∧ ((∃ i j, i < 8 ∧ b = nI i ∧ j < 8 ∧ c = nI j ∧ (Q.mp i = none ∨ Q.mp j = none)) → Kx 2 S (cs + (hrC (dfP Q b.toNatClampNeg c.toNatClampNeg) (kz 12, [], 0, 0, 0, 0) + 3)) (sl + (hrZ (dfP Q b.toNatClampNeg c.toNatClampNeg) (kz 12, [], 0, 0, 0, 0) + 18))) ∧ ((∃ i j p q, i < 8 ∧ b = nI i ∧ j < 8 ∧ c = nI j ∧ Q.mp i = some p ∧ Q.mp j = some q ∧ p ≠ q) → Kx 3 S (cs + (hrC (dfP Q b.toNatClampNeg c.toNatClampNeg) (kz 12, [], 0, 0, 0, 0) + 3)) (sl + (hrZ (dfP Q b.toNatClampNeg c.toNatClampNeg) (kz 12, [], 0, 0, 0, 0) + 18)))))
  | _ => False
def sp_wdf (t : Nat) (b : Int32) (c : Int32) (F : Nat → Nat × Nat) (X : Nat → GX) (kz : Nat → Nat) (Q : Ab) : Sp := (fun av S => av = [.inr (.inr (some t)), .inl b, .inl c] ∧ (WT S F t X kz Q ∧ AbM Q), fun _ S => hrC (dfP Q b.toNatClampNeg c.toNatClampNeg) (kz 12, [], 0, 0, 0, 0) + 3, fun _ S => hrZ (dfP Q b.toNatClampNeg c.toNatClampNeg) (kz 12, [], 0, 0, 0, 0) + 18, fun _ S rv S' => ∃ v, rv = (some (.inl v)) ∧ (∃ i j p, i < 8 ∧ b = nI i ∧ j < 8 ∧ c = nI j ∧ Q.mp i = some p ∧ Q.mp j = some p ∧ v = nI (dfX kz Q i j).2.1.length ∧ wtQ S S' F t X (upF kz 12 (dfX kz Q i j).1) (Q.sHu (dfX kz Q i j).2.1)), fun _ S E S' => (E = 1 ∧ (np 8 b ∨ np 8 c) ∧ S' = S) ∨ (E = 2 ∧ (∃ i j, i < 8 ∧ b = nI i ∧ j < 8 ∧ c = nI j ∧ (Q.mp i = none ∨ Q.mp j = none)) ∧ S' = S) ∨ (E = 3 ∧ (∃ i j p q, i < 8 ∧ b = nI i ∧ j < 8 ∧ c = nI j ∧ Q.mp i = some p ∧ Q.mp j = some q ∧ p ≠ q) ∧ S' = S))
def tX11_differ : CD := [(0, .aload_n 0), (1, .iload_n 1), (2, .invokevirtual 208), (5, .istore_n 3), (6, .aload_n 0), (7, .iload_n 2), (8, .invokevirtual 208), (11, .istore 4), (13, .iload_n 3), (14, .iconst (-1)), (15, .if_icmp .eq 9), (18, .iload 4), (20, .iconst (-1)), (21, .if_icmp .ne 11), (24, .new 147), (27, .dup), (28, .invokespecial 149), (31, .athrow), (32, .iload_n 3), (33, .iload 4), (35, .if_icmp .eq 11), (38, .new 136), (41, .dup), (42, .invokespecial 138), (45, .athrow), (46, .aload_n 0), (47, .getfield 53), (50, .aload_n 0), (51, .getfield 25), (54, .iload_n 3), (55, .aaload), (56, .getfield 112), (59, .aload_n 0), (60, .getfield 41), (63, .iload_n 1), (64, .iaload), (65, .aload_n 0), (66, .getfield 41), (69, .iload_n 2), (70, .iaload), (71, .invokevirtual 224), (74, .aload_n 0), (75, .getfield 53), (78, .getfield 228), (81, .ireturn)]
set_option maxRecDepth 100000 in
theorem kX11_differ : chk cX11_differ tX11_differ = true := by decide +kernel
theorem vX11_differ_208 : ∀ w ∈ ([.methodLink RX11 208 yX11_bookmarkedPeer, .instanceMethod yX11_bookmarkedPeer, .selects yX11_bookmarkedPeer.cls yX11_bookmarkedPeer yX11_bookmarkedPeer, .initialized yX11_bookmarkedPeer.cls, .code yX11_bookmarkedPeer cX11_bookmarkedPeer 2 (some .int)] : List Cond), w ∈ lw_good := List.forall_mem_cons.mpr ⟨mgd 1254 (by decide +kernel) (by decide +kernel), List.forall_mem_cons.mpr ⟨mgd 1256 (by decide +kernel) (by decide +kernel), List.forall_mem_cons.mpr ⟨mgd 20 (by decide +kernel) (by decide +kernel), List.forall_mem_cons.mpr ⟨mgd 121 (by decide +kernel) (by decide +kernel), List.forall_mem_cons.mpr ⟨mgd 1257 (by decide +kernel) (by decide +kernel), fun _ h => absurd h List.not_mem_nil⟩⟩⟩⟩⟩
theorem vX11_differ_224 : ∀ w ∈ ([.methodLink RX11 224 yX6_compare, .instanceMethod yX6_compare, .selects yX6_compare.cls yX6_compare yX6_compare, .initialized yX6_compare.cls, .code yX6_compare cX6_compare 7 none] : List Cond), w ∈ lw_good := List.forall_mem_cons.mpr ⟨mgd 1285 (by decide +kernel) (by decide +kernel), List.forall_mem_cons.mpr ⟨mgd 1286 (by decide +kernel) (by decide +kernel), List.forall_mem_cons.mpr ⟨mgd 1287 (by decide +kernel) (by decide +kernel), List.forall_mem_cons.mpr ⟨mgd 123 (by decide +kernel) (by decide +kernel), List.forall_mem_cons.mpr ⟨mgd 1288 (by decide +kernel) (by decide +kernel), fun _ h => absurd h List.not_mem_nil⟩⟩⟩⟩⟩
set_option maxRecDepth 100000 in
set_option maxHeartbeats 2000000 in
theorem c_wdf (l : Launch) (hlt : l.stackTraces = false) : ∀ (t : Nat) (b : Int32) (c : Int32) (F : Nat → Nat × Nat) (X : Nat → GX) (kz : Nat → Nat) (Q : Ab), CtX l yX11_differ (Cond.code yX11_differ cX11_differ 5 (some .int)) (some .int) 8 130 (sp_wdf t b c F X kz Q) := by
  intro t b c F X kz Q
  refine CtX.of hlt (fX11, nX11, aX11, iX11, lX11, [(208, 0, 2, 1, T_wbp), (224, 0, 4, 0, T_hcm)], qX11, gX11, thX11) false tX11_differ (fun _ _ _ => none) (by decide) (by decide) kX11_differ ⟨_, _, rfl⟩ fX11_ok nX11_ok aX11_ok iX11_ok lX11_ok (fun p e R s m args below meth c Q D cy z r A C hR1 hR2 => List.forall_mem_cons.mpr ⟨cOK_use (fun _ _ _ _ _ _ _ _ h => let ⟨sp, h1, h2, h3⟩ := u_wbp l hlt _ _ _ _ _ _ _ _ h; ⟨sp, cOKx_V C h1 vX11_differ_208 ⟨by decide, by decide, by decide +kernel⟩ ⟨by rw [hR1]; decide, by rw [hR2]; decide⟩ (k := 12) (T := TX11) (N := 15) rfl (by decide) h2, h3⟩), List.forall_mem_cons.mpr ⟨cOK_use (fun _ _ _ _ _ _ _ _ h => let ⟨sp, h1, h2, h3⟩ := u_hcm l _ _ _ _ _ _ _ _ h; ⟨sp, cOK_V C h1 vX11_differ_224 ⟨by decide, by decide, by decide +kernel⟩ ⟨by rw [hR1]; decide, by rw [hR2]; decide⟩ (k := 7) (T := TX6) (N := 6) rfl (by decide) h2, h3⟩), fun _ h => absurd h List.not_mem_nil⟩⟩) qX11_ok gX11_ok (fun q hq => ⟨thX11_ok q hq, by decide, by decide⟩) ?_ ?_
  · rintro _ S ⟨rfl, hp⟩
    refine ⟨Nat.le_of_ble_eq_true rfl, 300, ?_⟩
    show (0 = 0 ∧ (∃ (F_1 : Nat → Nat × Nat) (z_2 : Nat → Nat) (ft_3 fo_4 : Nat) (mp_5 : Nat → Option Nat) (ms_6 : Nat → Nat), (SfA S F_1 t z_2 ∧ SfB S F_1 t z_2 ft_3 fo_4 mp_5 ms_6) ∧ 0 + 1 ≤ hrC (dfP Q b.toNatClampNeg c.toNatClampNeg) (kz 12, [], 0, 0, 0, 0) + 3 ∧ 0 + 6 ≤ hrZ (dfP Q b.toNatClampNeg c.toNatClampNeg) (kz 12, [], 0, 0, 0, 0) + 18 ∧ ((∀ (x_8 : Int32) (S_7 : MM), (S_7 = S ∧ ∃ i, i < 8 ∧ b = nI i ∧ x_8 = stI (mp_5 i)) → (0 = 0 ∧ (∃ (F_9 : Nat → Nat × Nat) (z_10 : Nat → Nat) (ft_11 fo_12 : Nat) (mp_13 : Nat → Option Nat) (ms_14 : Nat → Nat), (SfA S_7 F_9 t z_10 ∧ SfB S_7 F_9 t z_10 ft_11 fo_12 mp_13 ms_14) ∧ 0 + 1 + 1 ≤ hrC (dfP Q b.toNatClampNeg c.toNatClampNeg) (kz 12, [], 0, 0, 0, 0) + 3 ∧ 0 + 6 + 6 ≤ hrZ (dfP Q b.toNatClampNeg c.toNatClampNeg) (kz 12, [], 0, 0, 0, 0) + 18 ∧ ((∀ (x_16 : Int32) (S_15 : MM), (S_15 = S_7 ∧ ∃ i, i < 8 ∧ c = nI i ∧ x_16 = stI (mp_13 i)) → ((x_8 = (-1 : Int32) → (mthr (sp_wdf t b c F X kz Q) [.inr (.inr (some t)), .inl b, .inl c] S 2 S_15 (0 + 1 + 1 + 1) (0 + 6 + 6 + 6))) ∧ (¬ x_8 = (-1 : Int32) → ((¬ x_16 = (-1 : Int32) → ((x_8 = x_16 → (isO S_15 12 t ∧ (isO S_15 12 t ∧ (pa (mR S_15 1203 t) fun a_17 => a_17 ∈ mL S_15 ∧ ¬ mK S_15 a_17 < 21 ∧ mK S_15 a_17 < 29 ∧ inR S_15 a_17 x_8 ∧ (pa (eR S_15 a_17 x_8.toNatClampNeg) fun a_18 => isO S_15 11 a_18 ∧ (isO S_15 12 t ∧ (pa (mR S_15 1209 t) fun a_19 => ∃ v_20 : Int32, (isO S_15 17 a_19 ∧ inR S_15 a_19 b ∧ v_20 = eI S_15 a_19 b.toNatClampNeg ∨ a_19 = (mQ S_15).1 ∧ vp_in b 16 ∧ v_20 = mRem b.toNatClampNeg) ∧ (isO S_15 12 t ∧ (pa (mR S_15 1209 t) fun a_21 => ∃ v_22 : Int32, (isO S_15 17 a_21 ∧ inR S_15 a_21 c ∧ v_22 = eI S_15 a_21 c.toNatClampNeg ∨ a_21 = (mQ S_15).1 ∧ vp_in c 16 ∧ v_22 = mRem c.toNatClampNeg) ∧ (0 = 0 ∧ ((pa (mR S_15 1212 t) fun a_23 => ((pa (mR S_15 1101 a_18) fun a_24 => (∃ (F_25 : Nat → Nat × Nat) (j_26 r_27 N_28 : Nat) (Q0_29 : List (Nat × Nat × Nat × Nat)) (f0_30 s0_31 rt_32 : Nat) (R_33 : List Nat), (HuR S_15 F_25 j_26 a_23 r_27 N_28 Q0_29 f0_30 s0_31 0 0 ∧ N_28 ≤ 32768 ∧ GCh S_15 a_24 rt_32 R_33 ∧ (F_25 a_24).1 ≠ j_26 ∧ (F_25 rt_32).1 ≠ j_26 ∧ (∀ w ∈ R_33, (F_25 w).1 ≠ j_26) ∧ R_33.length ≤ 8192) ∧ 0 + 1 + 1 + (hrC (hmP S_15 v_20 v_22 R_33) (N_28, [], 0, 0, 0, 0)) ≤ hrC (dfP Q b.toNatClampNeg c.toNatClampNeg) (kz 12, [], 0, 0, 0, 0) + 3 ∧ 0 + 6 + 6 + (hrZ (hmP S_15 v_20 v_22 R_33) (N_28, [], 0, 0, 0, 0)) ≤ hrZ (dfP Q b.toNatClampNeg c.toNatClampNeg) (kz 12, [], 0, 0, 0, 0) + 18 ∧ (∀ (S_34 : MM), (hmQ S_15 S_34 F_25 j_26 a_23 (hrun (hmP S_15 v_20 v_22 R_33) (N_28, [], 0, 0, 0, 0))) → (isO S_34 12 t ∧ (pa (mR S_34 1212 t) fun a_35 => isO S_34 7 a_35 ∧ (([] : List MV) = [] ∧ mret (some .int) (sp_wdf t b c F X kz Q) [.inr (.inr (some t)), .inl b, .inl c] S (some (.inl (mI S_34 701 a_35))) S_34 (0 + 1 + 1 + (hrC (hmP S_15 v_20 v_22 R_33) (N_28, [], 0, 0, 0, 0))) (0 + 6 + 6 + (hrZ (hmP S_15 v_20 v_22 R_33) (N_28, [], 0, 0, 0, 0)))))))))))))))))))))) ∧ (¬ x_8 = x_16 → (mthr (sp_wdf t b c F X kz Q) [.inr (.inr (some t)), .inl b, .inl c] S 3 S_15 (0 + 1 + 1 + 1) (0 + 6 + 6 + 6))))) ∧ (x_16 = (-1 : Int32) → (mthr (sp_wdf t b c F X kz Q) [.inr (.inr (some t)), .inl b, .inl c] S 2 S_15 (0 + 1 + 1 + 1) (0 + 6 + 6 + 6))))))) ∧ ((np 8 c) → mthr (sp_wdf t b c F X kz Q) [.inr (.inr (some t)), .inl b, .inl c] S 1 S_7 (0 + 1 + 1) (0 + 6 + 6)))))) ∧ ((np 8 b) → mthr (sp_wdf t b c F X kz Q) [.inr (.inr (some t)), .inl b, .inl c] S 1 S (0 + 1) (0 + 6)))))
    obtain ⟨⟨z, hz⟩, hM⟩ := hp
    have cst : ∀ a d : Nat, a ≤ 3 → d ≤ 18 → a ≤ (sp_wdf t b c F X kz Q).2.1 [.inr (.inr (some t)), .inl b, .inl c] S ∧ d ≤ (sp_wdf t b c F X kz Q).2.2.1 [.inr (.inr (some t)), .inl b, .inl c] S := fun a d h1 h2 => ⟨Nat.le_trans h1 (Nat.le_add_left _ _), Nat.le_trans h2 (Nat.le_add_left _ _)⟩
    refine ⟨rfl, F, z, _, _, _, _, ⟨hz.1.1, hz.1.2.1⟩, by omega, by omega, fun v S3 h => ?_, fun h => ⟨Or.inl ⟨rfl, Or.inl h, rfl⟩, cst _ _ (by decide) (by decide)⟩⟩
    obtain ⟨rfl, i, hi, hbi, rfl⟩ := h
    refine ⟨rfl, F, z, _, _, _, _, ⟨hz.1.1, hz.1.2.1⟩, by omega, by omega, fun v S3 h => ?_, fun h => ⟨Or.inl ⟨rfl, Or.inr h, rfl⟩, cst _ _ (by decide) (by decide)⟩⟩
    obtain ⟨rfl, j, hj, hcj, rfl⟩ := h
    have m1 : ∀ o : Option Nat, (∀ p, o = some p → p < 4) → stI o = -1 → o = none := fun o ho e => by
      cases o with
      | none => rfl
      | some p => exact absurd (show nI p < 0 by rw [show nI p = -1 from e]; decide) (nI_pos (by have := ho p rfl; omega))
    have hb4 := hz.1.2.1.2.2.2.2.2.2
    refine ⟨fun h => ⟨Or.inr (Or.inl ⟨rfl, ⟨i, j, hi, hbi, hj, hcj, Or.inl (m1 _ (hb4 i hi) h)⟩, rfl⟩), cst _ _ (by decide) (by decide)⟩, fun h1 => ⟨fun h2 => ?_, fun h => ⟨Or.inr (Or.inl ⟨rfl, ⟨i, j, hi, hbi, hj, hcj, Or.inr (m1 _ (hb4 j hj) h)⟩, rfl⟩), cst _ _ (by decide) (by decide)⟩⟩⟩
    cases e1 : Q.mp i with
    | none => rw [e1] at h1; exact absurd rfl h1
    | some p =>
      cases e2 : Q.mp j with
      | none => rw [e2] at h2; exact absurd rfl h2
      | some q =>
        have hp4 := hb4 i hi p e1
        have hq4 := hb4 j hj q e2
        refine ⟨fun epq => ?_, fun npq => ⟨Or.inr (Or.inr ⟨rfl, ⟨i, j, p, q, hi, hbi, hj, hcj, e1, e2, fun w => npq (by rw [w])⟩, rfl⟩), cst _ _ (by decide) (by decide)⟩⟩
        have epq : p = q := (nI_eq (by omega) (by omega)).1 epq
        subst epq
        obtain ⟨A, H, W, r, a', d, ea, kn, kr, cu, hP⟩ := hz.2.1 p hp4
        have g := hP.gi
        obtain ⟨c1, c2, c3, c4⟩ := hz.1.1.2.2.2.2
        have ht := hz.1.1.1
        have r3 : mR S3 1203 t = some (z 3) := hz.1.1.2.2.1 3 (by decide) (by decide) (by decide) (by decide)
        have r9 : mR S3 1209 t = some (z 9) := hz.1.1.2.2.1 9 (by decide) (by decide) (by decide) (by decide)
        have r12 : mR S3 1212 t = some (z 12) := hz.1.1.2.2.1 12 (by decide) (by decide) (by decide) (by decide)
        obtain ⟨d1, d2, d3, d4⟩ := hz.1.2.1.2.2.2.2.2.1
        obtain ⟨hr, f0, s0, hu, h32⟩ := hz.2.2.2.2.2.2.2.1
        have cb : b.toNatClampNeg = i := by rw [hbi]; exact nI_clamp (by omega)
        have cc : c.toNatClampNeg = j := by rw [hcj]; exact nI_clamp (by omega)
        have v1 : eI S3 (z 9) i = nI (Q.ms i) := d4 i hi (by rw [e1]; intro w; cases w)
        have v2 : eI S3 (z 9) j = nI (Q.ms j) := d4 j hj (by rw [e2]; intro w; cases w)
        have gn := g.ok.hn
        have eP : hmP S3 (nI (Q.ms i)) (nI (Q.ms j)) ((Q.T p).od.map (xa A (X p))) = dfP Q i j := by
          unfold dfP hmP hpG
          rw [e1, List.map_map]
          refine List.map_congr_left (fun x hx => ?_)
          obtain ⟨k, rfl, hkn, hkc⟩ := g.nd hx
          have ev := g.ev.2.1 k hkn
          show (stN S3 (nI (Q.ms i)) ((X p).ad k), stN S3 (nI (Q.ms j)) ((X p).ad k)) = (stM (Q.G p) (Q.ms i) k, stM (Q.G p) (Q.ms j) k)
          have a1 : Q.ms i ≤ 8192 := Nat.le_trans (hM i hi p e1) gn
          have a2 : Q.ms j ≤ 8192 := Nat.le_trans (hM j hj p e2) gn
          rw [std_stM ev.2.2.2.1 (g 15 k hkn hkc) (by omega) a1 gn, std_stM ev.2.2.2.1 (g 15 k hkn hkc) (by omega) a2 gn]
        refine ⟨ht, ht, pa_i r3 ⟨c1.1, by rw [c1.2]; decide, by rw [c1.2]; decide, inRn c2 hp4 (by decide), ?_⟩⟩
        rw [show stI (some p) = nI p from rfl, nI_clamp (by omega), c4 p hp4]
        have hRl : ((Q.T p).od.map (xa A (X p))).length ≤ 8192 := by
          rw [List.length_map]; exact Nat.le_trans g.odl gn
        have nf : ∀ {x y}, F x = (p + 1, y) → (F x).1 ≠ 25 := fun {x y} e w => by rw [e] at w; have w : p + 1 = 25 := w; omega
        refine ⟨hP.1.1, ht, pa_i r9 ⟨_, Or.inl ⟨d1, by rw [hbi]; exact inRn d2 hi (by decide), rfl⟩, ht, pa_i r9 ⟨_, Or.inl ⟨d1, by rw [hcj]; exact inRn d2 hj (by decide), rfl⟩, rfl, pa_i r12 (pa_i hP.1.2.2.2.1 ?_)⟩⟩⟩
        rw [cb, cc, v1, v2]
        refine ⟨F, 25, hr, kz 12, Q.hu, f0, s0, A 1, _, ⟨hu, h32, g.gch, nf (g 0).2, nf (g 1).2.2, fun w hw => ?_, hRl⟩, ?_, ?_, fun S4 h4 => ?_⟩
        · obtain ⟨x, hx, rfl⟩ := List.mem_map.1 hw
          obtain ⟨k, rfl, hkn, hkc⟩ := g.nd hx
          exact nf (g 11 k hkn).1
        · rw [eP]; omega
        · rw [eP]; omega
        · rw [eP] at h4 ⊢
          obtain ⟨F4, r4, w1, w2, w3⟩ := h4
          have fo4 : FO S4 F4 := w1.2.2.2.2.2.2.2.2.2.2.2.2.2.2.2.2.1
          have okx : (dfX kz Q i j).1 ≤ 32768 ∧ (dfX kz Q i j).2.2.2.2.1 = 0 ∧ (dfX kz Q i j).2.2.2.2.2 = 0 := hrun_ok (n := 0) ⟨h32, Nat.le_refl 0, Nat.le_refl 0, Nat.le_refl 0⟩ (by
            rw [← eP]; unfold hmP; rw [List.length_map]; omega) (fun q hq => by
            unfold dfP at hq
            rw [e1] at hq
            obtain ⟨x, -, rfl⟩ := List.mem_map.1 hq
            exact ⟨stM_01, stM_01⟩)
          have w1 : HuR S4 F4 25 (z 12) r4 (dfX kz Q i j).1 (dfX kz Q i j).2.1 (dfX kz Q i j).2.2.1 (dfX kz Q i j).2.2.2.1 (dfX kz Q i j).2.2.2.2.1 (dfX kz Q i j).2.2.2.2.2 := w1
          rw [okx.2.1, okx.2.2] at w1
          have hw := hz.hunk (K' := upF kz 12 (dfX kz Q i j).1) ⟨r4, _, _, by rw [upF_s]; exact ⟨w1, okx.1⟩⟩ (fun l hl => upF_o hl) w3 w2 fo4
          have m12 : mR S4 1212 t = some (z 12) := hw.1.1.2.2.1 12 (by decide) (by decide) (by decide) (by decide)
          refine ⟨hw.1.1.1, pa_i m12 ⟨w1.1, rfl, trivial, ⟨_, rfl, i, j, p, hi, hbi, hj, hcj, e1, e2, w1.2.2.2.2.2.2.2.2.2.2.1, F4, ⟨z, hw⟩, w2, w3.mono (fun b _ e => by show cO (F b).1; rw [e]; exact ⟨by decide, by decide⟩)⟩, ?_, ?_⟩⟩
          · show _ ≤ hrC (dfP Q b.toNatClampNeg c.toNatClampNeg) (kz 12, [], 0, 0, 0, 0) + 3
            rw [cb, cc]; omega
          · show _ ≤ hrZ (dfP Q b.toNatClampNeg c.toNatClampNeg) (kz 12, [], 0, 0, 0, 0) + 18
            rw [cb, cc]; omega
  · exact fun _ _ _ _ _ h => by cases h
theorem u_wdf (l : Launch) (hlt : l.stackTraces = false) : UsX l yX11_differ (Cond.code yX11_differ cX11_differ 5 (some .int)) (some .int) 8 130 12 T_wdf := by
  intro Rc Rs av S cs sl K Kx h
  unfold T_wdf at h
  split at h
  · rename_i t_o b c
    obtain ⟨t, rfl, h_1⟩ := pa_of h
    obtain ⟨F, X, kz, Q, hp, hc, hs, hk, hx0, hx1, hx2⟩ := h_1
    refine ⟨(sp_wdf t b c F X kz Q), c_wdf l hlt t b c F X kz Q, fun _ _ h9 => ⟨_, _, h9.1, h9.2.1.choose_spec.1.1.1⟩, ⟨rfl, hp⟩, hc, hs, fun v9 S' h8 => by
      obtain ⟨v8, h7, h8⟩ := h8
      cases h7
      exact hk _ _ h8, fun _ _ q => by
      rcases q with ⟨rfl, q⟩ | ⟨rfl, q⟩ | ⟨rfl, q⟩
      · obtain ⟨q, rfl⟩ := q
        exact hx0 q
      · obtain ⟨q, rfl⟩ := q
        exact hx1 q
      · obtain ⟨q, rfl⟩ := q
        exact hx2 q⟩
  · exact h.elim
