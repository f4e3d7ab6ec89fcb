/-! ===== The reference's calls: octet, line ===== -/
/-- where a slot's octet is asked for -/
def ocP (B : List Nat) (x v : Int32) : Prop := B ≠ [] ∧ ((x = -1 ∧ v = nI B.length) ∨ ∃ j, j < B.length ∧ x = nI j ∧ v = nI (B.getD j 0))
def I_oc1 (t : Nat) (s x : Int32) (S : MM) (k : Nat) : KT := fun lo st S1 cs sl => ∃ i, k = 3 ∧ i < 8 ∧ s = nI i ∧ ¬ x < -1 ∧ lo = [(0, .inr (.inr (some t))), (1, .inl (nI i)), (2, .inl x)] ∧ st = [] ∧ S = S1 ∧ cs = 1 ∧ sl = 6
def I_oc2 (t : Nat) (s x : Int32) (R : Rb) (S : MM) (k : Nat) : KT := fun lo st S1 cs sl => ∃ i, k = 2 ∧ i < 8 ∧ s = nI i ∧ ¬ x < -1 ∧ R.Q.sl i ≠ [] ∧ lo = [(0, .inr (.inr (some t))), (1, .inl (nI i)), (2, .inl x)] ∧ st = [] ∧ S = S1 ∧ cs = 2 ∧ sl = 12
def I_oc3 (t : Nat) (s x : Int32) (R : Rb) (S : MM) (k : Nat) : KT := fun lo st S1 cs sl => ∃ i, k = 1 ∧ i < 8 ∧ s = nI i ∧ ¬ x < -1 ∧ R.Q.sl i ≠ [] ∧ ¬ nI (R.Q.sl i).length ≤ x ∧ lo = [(0, .inr (.inr (some t))), (1, .inl (nI i)), (2, .inl x)] ∧ st = [] ∧ S = S1 ∧ cs = 3 ∧ sl = 18
def T_roc0 : TR := fun Rc Rs av S cs sl K Kx => match av with
  | [.inr (.inr t_o), .inl s, .inl x] => pa t_o fun t => (∃ (F : Nat → Nat × Nat) (z : Nat → Nat) (Y : Nat → Nat → Nat) (R : Rb) (kz : Nat → Nat), (MD S F t z Y R kz) ∧ cs + 3 ≤ Rc ∧ sl + 18 ≤ Rs ∧ ((∀ (v : Int32) (S' : MM), (S' = S ∧ ∃ i, i < 8 ∧ s = nI i ∧ ocP (R.Q.sl i) x v) → K (some (.inl v)) S' (cs + 3) (sl + 18)) ∧ ((np 8 s ∨ x < -1 ∨ (∃ i, i < 8 ∧ s = nI i ∧ R.Q.sl i ≠ [] ∧ nI (R.Q.sl i).length ≤ x)) → Kx 1 S (cs + 3) (sl + 18)) ∧ ((∃ i, i < 8 ∧ s = nI i ∧ R.Q.sl i = [] ∧ ¬ x < -1) → Kx 2 S (cs + 3) (sl + 18))))
  | _ => False
def sp_roc0 (t : Nat) (s : Int32) (x : Int32) (F : Nat → Nat × Nat) (z : Nat → Nat) (Y : Nat → Nat → Nat) (R : Rb) (kz : Nat → Nat) : Sp := (fun av S => av = [.inr (.inr (some t)), .inl s, .inl x] ∧ (MD S F t z Y R kz), fun _ S => 3, fun _ S => 18, fun _ S rv S' => ∃ v, rv = (some (.inl v)) ∧ (S' = S ∧ ∃ i, i < 8 ∧ s = nI i ∧ ocP (R.Q.sl i) x v), fun _ S E S' => (E = 1 ∧ (np 8 s ∨ x < -1 ∨ (∃ i, i < 8 ∧ s = nI i ∧ R.Q.sl i ≠ [] ∧ nI (R.Q.sl i).length ≤ x)) ∧ S' = S) ∨ (E = 2 ∧ (∃ i, i < 8 ∧ s = nI i ∧ R.Q.sl i = [] ∧ ¬ x < -1) ∧ S' = S))
def tX14_octet0 : CD := [(0, .iload_n 1), (1, .iconst 0), (2, .bipush 7), (4, .invokestatic 144), (7, .ifCond .eq 12), (10, .iload_n 2), (11, .iconst (-1)), (12, .if_icmp .lt 7), (15, .iconst 1), (16, .goto 4), (19, .iconst 0), (20, .invokestatic 148), (23, .aload_n 0), (24, .getfield 21), (27, .iload_n 1), (28, .aaload), (29, .ifnull 7), (32, .iconst 1), (33, .goto 4), (36, .iconst 0), (37, .invokestatic 236), (40, .iload_n 2), (41, .aload_n 0), (42, .getfield 25), (45, .iload_n 1), (46, .iaload), (47, .if_icmp .ge 7), (50, .iconst 1), (51, .goto 4), (54, .iconst 0), (55, .invokestatic 148), (58, .iload_n 2), (59, .ifCond .ge 12), (62, .aload_n 0), (63, .getfield 25), (66, .iload_n 1), (67, .iaload), (68, .goto 15), (71, .aload_n 0), (72, .getfield 21), (75, .iload_n 1), (76, .aaload), (77, .iload_n 2), (78, .baload), (79, .sipush 255), (82, .iand), (83, .ireturn)]
set_option maxRecDepth 100000 in
theorem kX14_octet0 : chk cX14_octet0 tX14_octet0 = true := by decide +kernel
theorem vX14_octet0_144 : ∀ w ∈ ([.methodLink RX14 144 yX14_in, .static yX14_in, .initialized yX14_in.cls, .code yX14_in cX14_in 3 (some .boolean)] : List Cond), w ∈ lw_good := List.forall_mem_cons.mpr ⟨mgd 1930 (by decide +kernel) (by decide +kernel), List.forall_mem_cons.mpr ⟨mgd 1931 (by decide +kernel) (by decide +kernel), List.forall_mem_cons.mpr ⟨mgd 136 (by decide +kernel) (by decide +kernel), List.forall_mem_cons.mpr ⟨mgd 1932 (by decide +kernel) (by decide +kernel), fun _ h => absurd h List.not_mem_nil⟩⟩⟩⟩
theorem vX14_octet0_148 : ∀ w ∈ ([.methodLink RX14 148 yX14_check, .static yX14_check, .initialized yX14_check.cls, .code yX14_check cX14_check 1 none] : List Cond), w ∈ lw_good := List.forall_mem_cons.mpr ⟨mgd 1933 (by decide +kernel) (by decide +kernel), List.forall_mem_cons.mpr ⟨mgd 1934 (by decide +kernel) (by decide +kernel), List.forall_mem_cons.mpr ⟨mgd 136 (by decide +kernel) (by decide +kernel), List.forall_mem_cons.mpr ⟨mgd 1935 (by decide +kernel) (by decide +kernel), fun _ h => absurd h List.not_mem_nil⟩⟩⟩⟩
theorem vX14_octet0_236 : ∀ w ∈ ([.methodLink RX14 236 yX14_there, .static yX14_there, .initialized yX14_there.cls, .code yX14_there cX14_there 1 none] : List Cond), w ∈ lw_good := List.forall_mem_cons.mpr ⟨mgd 2066 (by decide +kernel) (by decide +kernel), List.forall_mem_cons.mpr ⟨mgd 2067 (by decide +kernel) (by decide +kernel), List.forall_mem_cons.mpr ⟨mgd 136 (by decide +kernel) (by decide +kernel), List.forall_mem_cons.mpr ⟨mgd 2068 (by decide +kernel) (by decide +kernel), fun _ h => absurd h List.not_mem_nil⟩⟩⟩⟩
set_option maxRecDepth 100000 in
set_option maxHeartbeats 2000000 in
theorem c_roc0 (l : Launch) (hlt : l.stackTraces = false) : ∀ (t : Nat) (s : Int32) (x : Int32) (F : Nat → Nat × Nat) (z : Nat → Nat) (Y : Nat → Nat → Nat) (R : Rb) (kz : Nat → Nat), CtX l yX14_octet0 (Cond.code yX14_octet0 cX14_octet0 3 (some .int)) (some .int) 7 109 (sp_roc0 t s x F z Y R kz) := by
  intro t s x F z Y R kz
  refine CtX.of hlt (fX14, nX14, aX14, iX14, lX14, [(144, 2, 3, 1, T_rin), (148, 2, 1, 0, T_rck), (236, 2, 1, 0, T_rth)], qX14, gX14, []) false tX14_octet0 (fun _ S => look [(23, ([0,1,2], I_oc1 t s x S)), (40, ([0,1,2], I_oc2 t s x R S)), (58, ([0,1,2], I_oc3 t s x R S))]) (by decide) (by decide) kX14_octet0 ⟨_, _, rfl⟩ fX14_ok nX14_ok aX14_ok iX14_ok lX14_ok (fun p e R s m args below meth c Q D cy z r A C hR1 hR2 => List.forall_mem_cons.mpr ⟨cOK_use (fun _ _ _ _ _ _ _ _ h => let ⟨sp, h1, _, h3⟩ := u_rin l _ _ _ _ _ _ _ _ h; ⟨sp, cOK_S C h1 vX14_octet0_144 ⟨by decide, by decide, by decide +kernel⟩ ⟨by rw [hR1]; decide, by rw [hR2]; decide⟩, h3⟩), List.forall_mem_cons.mpr ⟨cOK_use (fun _ _ _ _ _ _ _ _ h => let ⟨sp, h1, _, h3⟩ := u_rck l hlt _ _ _ _ _ _ _ _ h; ⟨sp, cOKx_S C h1 vX14_octet0_148 ⟨by decide, by decide, by decide +kernel⟩ ⟨by rw [hR1]; decide, by rw [hR2]; decide⟩, h3⟩), List.forall_mem_cons.mpr ⟨cOK_use (fun _ _ _ _ _ _ _ _ h => let ⟨sp, h1, _, h3⟩ := u_rth l hlt _ _ _ _ _ _ _ _ h; ⟨sp, cOKx_S C h1 vX14_octet0_236 ⟨by decide, by decide, by decide +kernel⟩ ⟨by rw [hR1]; decide, by rw [hR2]; decide⟩, h3⟩), fun _ h => absurd h List.not_mem_nil⟩⟩⟩) qX14_ok gX14_ok (fun _ h => absurd h List.not_mem_nil) ?_ ?_
  · rintro _ S ⟨rfl, hp⟩
    refine ⟨Nat.le_of_ble_eq_true rfl, 300, ?_⟩
    show (2 = 2 ∧ (True ∧ 0 ≤ 3 ∧ 0 ≤ 18 ∧ ((((tf ((0 : Int32) ≤ s ∧ s ≤ (7 : Int32))) = 0 → (2 = 2 ∧ (((0 : Int32) = 0 ∨ (0 : Int32) = 1) ∧ 0 + 1 ≤ 3 ∧ 0 + 6 ≤ 18 ∧ ((∀ (S_2 : MM), (S_2 = S ∧ (0 : Int32) = 1) → (∃ k1, I_oc1 t s x S k1 [(0, .inr (.inr (some t))), (1, .inl s), (2, .inl x)] [] S_2 (0 + 1) (0 + 6))) ∧ (((0 : Int32) = 0) → mthr (sp_roc0 t s x F z Y R kz) [.inr (.inr (some t)), .inl s, .inl x] S 1 S (0 + 1) (0 + 6)))))) ∧ (¬ (tf ((0 : Int32) ≤ s ∧ s ≤ (7 : Int32))) = 0 → ((x < (-1 : Int32) → (2 = 2 ∧ (((0 : Int32) = 0 ∨ (0 : Int32) = 1) ∧ 0 + 1 ≤ 3 ∧ 0 + 6 ≤ 18 ∧ ((∀ (S_4 : MM), (S_4 = S ∧ (0 : Int32) = 1) → (∃ k1, I_oc1 t s x S k1 [(0, .inr (.inr (some t))), (1, .inl s), (2, .inl x)] [] S_4 (0 + 1) (0 + 6))) ∧ (((0 : Int32) = 0) → mthr (sp_roc0 t s x F z Y R kz) [.inr (.inr (some t)), .inl s, .inl x] S 1 S (0 + 1) (0 + 6)))))) ∧ (¬ x < (-1 : Int32) → (2 = 2 ∧ (((1 : Int32) = 0 ∨ (1 : Int32) = 1) ∧ 0 + 1 ≤ 3 ∧ 0 + 6 ≤ 18 ∧ ((∀ (S_6 : MM), (S_6 = S ∧ (1 : Int32) = 1) → (∃ k1, I_oc1 t s x S k1 [(0, .inr (.inr (some t))), (1, .inl s), (2, .inl x)] [] S_6 (0 + 1) (0 + 6))) ∧ (((1 : Int32) = 0) → mthr (sp_roc0 t s x F z Y R kz) [.inr (.inr (some t)), .inl s, .inl x] S 1 S (0 + 1) (0 + 6))))))))))))
    refine ⟨rfl, trivial, by decide, by decide, fun hs => ⟨rfl, Or.inl rfl, by decide, by decide, fun S9 h => absurd h.2 (by decide), fun _ => ⟨Or.inl ⟨rfl, Or.inl (in_0k (k := 7) (by decide) hs), rfl⟩, Nat.le_of_ble_eq_true rfl, Nat.le_of_ble_eq_true rfl⟩⟩, fun hs => ?_⟩
    obtain ⟨i, hi, rfl⟩ := in_1k (k := 7) (by decide) ((tf_b _).resolve_left hs)
    refine ⟨fun hx => ⟨rfl, Or.inl rfl, by decide, by decide, fun S9 h => absurd h.2 (by decide), fun _ => ⟨Or.inl ⟨rfl, Or.inr (Or.inl hx), rfl⟩, Nat.le_of_ble_eq_true rfl, Nat.le_of_ble_eq_true rfl⟩⟩, fun hx => ⟨rfl, Or.inr rfl, by decide, by decide, fun S9 h => ?_, fun h => absurd h (by decide)⟩⟩
    obtain ⟨rfl, -⟩ := h
    exact ⟨3, i, rfl, hi, rfl, hx, rfl, rfl, rfl, rfl, rfl⟩
  · intro av S hpre pc I hI k lo st S1 cs sl h
    obtain ⟨rfl, hp⟩ := hpre
    have hm := look_in hI
    simp only [List.mem_cons, List.not_mem_nil, or_false] at hm
    rcases hm with hm | hm | hm
    · cases hm
      obtain ⟨i, rfl, hi, hs, hx, rfl, rfl, rfl, rfl, rfl⟩ := h
      refine ⟨300, ?_⟩
      show (isO S 15 t ∧ (pa (mR S 1503 t) fun a_1 => a_1 ∈ mL S ∧ ¬ mK S a_1 < 21 ∧ mK S a_1 < 29 ∧ inR S a_1 (nI i) ∧ (((eR S a_1 (nI i).toNatClampNeg) = none → (2 = 2 ∧ (((0 : Int32) = 0 ∨ (0 : Int32) = 1) ∧ 1 + 1 ≤ 3 ∧ 6 + 6 ≤ 18 ∧ ((∀ (S_3 : MM), (S_3 = S ∧ (0 : Int32) = 1) → (∃ k1, k1 < 3 ∧ I_oc2 t s x R S k1 [(0, .inr (.inr (some t))), (1, .inl (nI i)), (2, .inl x)] [] S_3 (1 + 1) (6 + 6))) ∧ (((0 : Int32) = 0) → mthr (sp_roc0 t s x F z Y R kz) [.inr (.inr (some t)), .inl s, .inl x] S 2 S (1 + 1) (6 + 6)))))) ∧ (∀ w_2, (eR S a_1 (nI i).toNatClampNeg) = some w_2 → (2 = 2 ∧ (((1 : Int32) = 0 ∨ (1 : Int32) = 1) ∧ 1 + 1 ≤ 3 ∧ 6 + 6 ≤ 18 ∧ ((∀ (S_5 : MM), (S_5 = S ∧ (1 : Int32) = 1) → (∃ k1, k1 < 3 ∧ I_oc2 t s x R S k1 [(0, .inr (.inr (some t))), (1, .inl (nI i)), (2, .inl x)] [] S_5 (1 + 1) (6 + 6))) ∧ (((1 : Int32) = 0) → mthr (sp_roc0 t s x F z Y R kz) [.inr (.inr (some t)), .inl s, .inl x] S 2 S (1 + 1) (6 + 6)))))))))
      have r3 := hp 1 3 (by decide)
      have ci : (nI i).toNatClampNeg = i := nI_clamp (by omega)
      refine ⟨(hp 0).1, pa_i r3.1 ⟨r3.2.2.1.1, by rw [r3.2.2.1.2]; decide, by rw [r3.2.2.1.2]; decide, inRn (N := 8) r3.2.2.2 hi (by decide), ?_⟩⟩
      rw [ci]
      rcases hp 4 i hi with ⟨a1, a2⟩ | ⟨a1, a2, -⟩
      · exact ⟨fun _ => ⟨rfl, Or.inl rfl, by decide, by decide, fun S9 h => absurd h.2 (by decide), fun _ => ⟨Or.inr ⟨rfl, ⟨i, hi, hs, a1, hx⟩, rfl⟩, Nat.le_of_ble_eq_true rfl, Nat.le_of_ble_eq_true rfl⟩⟩, fun w hw => by rw [a2] at hw; cases hw⟩
      · refine ⟨fun hw => (by rw [a2] at hw; cases hw), fun w hw => ⟨rfl, Or.inr rfl, by decide, by decide, fun S9 h => ?_, fun h => absurd h (by decide)⟩⟩
        obtain ⟨rfl, -⟩ := h
        exact ⟨2, by decide, i, rfl, hi, hs, hx, a1, rfl, rfl, rfl, rfl, rfl⟩
    · cases hm
      obtain ⟨i, rfl, hi, hs, hx, hB, rfl, rfl, rfl, rfl, rfl⟩ := h
      refine ⟨300, ?_⟩
      show (isO S 15 t ∧ (pa (mR S 1504 t) fun a_1 => ∃ v_2 : Int32, (isO S 17 a_1 ∧ inR S a_1 (nI i) ∧ v_2 = eI S a_1 (nI i).toNatClampNeg ∨ a_1 = (mQ S).1 ∧ vp_in (nI i) 16 ∧ v_2 = mRem (nI i).toNatClampNeg) ∧ ((v_2 ≤ x → (2 = 2 ∧ (((0 : Int32) = 0 ∨ (0 : Int32) = 1) ∧ 2 + 1 ≤ 3 ∧ 12 + 6 ≤ 18 ∧ ((∀ (S_3 : MM), (S_3 = S ∧ (0 : Int32) = 1) → (∃ k1, k1 < 2 ∧ I_oc3 t s x R S k1 [(0, .inr (.inr (some t))), (1, .inl (nI i)), (2, .inl x)] [] S_3 (2 + 1) (12 + 6))) ∧ (((0 : Int32) = 0) → mthr (sp_roc0 t s x F z Y R kz) [.inr (.inr (some t)), .inl s, .inl x] S 1 S (2 + 1) (12 + 6)))))) ∧ (¬ v_2 ≤ x → (2 = 2 ∧ (((1 : Int32) = 0 ∨ (1 : Int32) = 1) ∧ 2 + 1 ≤ 3 ∧ 12 + 6 ≤ 18 ∧ ((∀ (S_5 : MM), (S_5 = S ∧ (1 : Int32) = 1) → (∃ k1, k1 < 2 ∧ I_oc3 t s x R S k1 [(0, .inr (.inr (some t))), (1, .inl (nI i)), (2, .inl x)] [] S_5 (2 + 1) (12 + 6))) ∧ (((1 : Int32) = 0) → mthr (sp_roc0 t s x F z Y R kz) [.inr (.inr (some t)), .inl s, .inl x] S 1 S (2 + 1) (12 + 6)))))))))
      have r4 := hp 1 4 (by decide)
      have ci : (nI i).toNatClampNeg = i := nI_clamp (by omega)
      obtain ⟨-, a2, a3, a4, a5, a6, a7, a8⟩ := (hp 4 i hi).resolve_left (fun z => hB z.1)
      refine ⟨(hp 0).1, rdI (v := nI (R.Q.sl i).length) r4.1 r4.2.2.1 (inRn (N := 8) r4.2.2.2 hi (by decide)) (by rw [ci]; exact a6) ⟨fun w => ⟨rfl, Or.inl rfl, by decide, by decide, fun S9 h => absurd h.2 (by decide), fun _ => ⟨Or.inl ⟨rfl, Or.inr (Or.inr ⟨i, hi, hs, hB, w⟩), rfl⟩, Nat.le_of_ble_eq_true rfl, Nat.le_of_ble_eq_true rfl⟩⟩, fun w => ⟨rfl, Or.inr rfl, by decide, by decide, fun S9 h => ?_, fun h => absurd h (by decide)⟩⟩⟩
      obtain ⟨rfl, -⟩ := h
      exact ⟨1, by decide, i, rfl, hi, hs, hx, hB, w, rfl, rfl, rfl, rfl, rfl⟩
    · cases hm
      obtain ⟨i, rfl, hi, hs, hx, hB, hl, rfl, rfl, rfl, rfl, rfl⟩ := h
      refine ⟨300, ?_⟩
      show ((0 ≤ x → (isO S 15 t ∧ (pa (mR S 1503 t) fun a_1 => a_1 ∈ mL S ∧ ¬ mK S a_1 < 21 ∧ mK S a_1 < 29 ∧ inR S a_1 (nI i) ∧ (pa (eR S a_1 (nI i).toNatClampNeg) fun a_2 => (isO S 16 a_2 ∨ isO S 20 a_2) ∧ inR S a_2 x ∧ (([] : List MV) = [] ∧ mret (some .int) (sp_roc0 t s x F z Y R kz) [.inr (.inr (some t)), .inl s, .inl x] S (some (.inl ((eI S a_2 x.toNatClampNeg) &&& (255 : Int32)))) S 3 18))))) ∧ (¬ 0 ≤ x → (isO S 15 t ∧ (pa (mR S 1504 t) fun a_3 => ∃ v_4 : Int32, (isO S 17 a_3 ∧ inR S a_3 (nI i) ∧ v_4 = eI S a_3 (nI i).toNatClampNeg ∨ a_3 = (mQ S).1 ∧ vp_in (nI i) 16 ∧ v_4 = mRem (nI i).toNatClampNeg) ∧ (([] : List MV) = [] ∧ mret (some .int) (sp_roc0 t s x F z Y R kz) [.inr (.inr (some t)), .inl s, .inl x] S (some (.inl v_4)) S 3 18)))))
      have r3 := hp 1 3 (by decide)
      have r4 := hp 1 4 (by decide)
      have ci : (nI i).toNatClampNeg = i := nI_clamp (by omega)
      obtain ⟨-, a2, a3, a4, a5, a6, a7, a8⟩ := (hp 4 i hi).resolve_left (fun z => hB z.1)
      refine ⟨fun w => ?_, fun w => ⟨(hp 0).1, rdI (v := nI (R.Q.sl i).length) r4.1 r4.2.2.1 (inRn (N := 8) r4.2.2.2 hi (by decide)) (by rw [ci]; exact a6) ⟨rfl, trivial, ⟨_, rfl, rfl, i, hi, hs, hB, Or.inl ⟨m1_of hx (Int32.not_le.1 w), rfl⟩⟩, Nat.le_refl _, Nat.le_refl _⟩⟩⟩
      obtain ⟨j, hj, rfl⟩ := nI_of (Int32.not_lt.2 w)
      have hjl : j < (R.Q.sl i).length := Nat.lt_of_not_le (fun q => hl ((nI_leI (by omega) hj).2 q))
      refine ⟨(hp 0).1, pa_i r3.1 ⟨r3.2.2.1.1, by rw [r3.2.2.1.2]; decide, by rw [r3.2.2.1.2]; decide, inRn (N := 8) r3.2.2.2 hi (by decide), ?_⟩⟩
      rw [ci]
      refine pa_i a2 ⟨Or.inl a3, inRn a4 (by omega) (by decide), rfl, trivial, ⟨_, rfl, rfl, i, hi, hs, hB, Or.inr ⟨j, hjl, rfl, ?_⟩⟩, Nat.le_refl _, Nat.le_refl _⟩
      rw [nI_clamp (by omega)]
      exact a8.2.2 j hjl
theorem u_roc0 (l : Launch) (hlt : l.stackTraces = false) : UsX l yX14_octet0 (Cond.code yX14_octet0 cX14_octet0 3 (some .int)) (some .int) 7 109 15 T_roc0 := by
  intro Rc Rs av S cs sl K Kx h
  unfold T_roc0 at h
  split at h
  · rename_i t_o s x
    obtain ⟨t, rfl, h_1⟩ := pa_of h
    obtain ⟨F, z, Y, R, kz, hp, hc, hs, hk, hx0, hx1⟩ := h_1
    refine ⟨(sp_roc0 t s x F z Y R kz), c_roc0 l hlt t s x F z Y R kz, fun _ _ h9 => ⟨_, _, h9.1, (h9.2 0).1⟩, ⟨rfl, hp⟩, hc, hs, fun v9 S' h8 => by
      obtain ⟨v8, h7, h8⟩ := h8
      cases h7
      exact hk _ _ h8, fun _ _ q => by
      rcases q with ⟨rfl, q⟩ | ⟨rfl, q⟩
      · obtain ⟨q, rfl⟩ := q
        exact hx0 q
      · obtain ⟨q, rfl⟩ := q
        exact hx1 q⟩
  · exact h.elim
/-- how the reference finds a line: lines so far, index so far, where it begins -/
def lnR (n : Int32) : List Int32 → Nat → Nat → Int32 → Nat × Nat × Int32
  | [], l, i, b => (l, i, b)
  | c :: T, l, i, b => if c = 10 then lnR n T (l + 1) (i + 1) (if nI l = n then nI (i + 1) else b) else lnR n T l (i + 1) b
def I_li1 (p x : Int32) (Y : Nat → Nat → Nat) (R : Rb) (S : MM) (k : Nat) : KT := fun lo st S1 cs sl => ∃ n j l i b, j + k = (R.Q.T n).od.length ∧ n < 4 ∧ p = nI n ∧ l ≤ j + 1 ∧ i ≤ j ∧ lnR x (txtG (R.Q.G n) (R.Q.T n)) 1 0 (if x = 0 then 0 else -1) = lnR x ((((R.Q.T n).od.drop j).filter (vis (R.Q.G n))).map (fun x => chI ((R.Q.G n).ev (x - 1)).ch)) l i b ∧ lo = [(2, .inl x), (3, .inr (.inr (some (Y n 0)))), (4, .inl (nI l)), (5, .inl (nI i)), (6, .inl b), (7, .inl (nI j))] ∧ st = [] ∧ S = S1 ∧ cs = 1 ∧ sl = 6
def T_rli0 : TR := fun Rc Rs av S cs sl K Kx => match av with
  | [.inr (.inr t_o), .inl p, .inl x] => pa t_o fun t => (∃ (F : Nat → Nat × Nat) (z : Nat → Nat) (Y : Nat → Nat → Nat) (R : Rb) (kz : Nat → Nat), (MD S F t z Y R kz) ∧ cs + 2 ≤ Rc ∧ sl + 12 ≤ Rs ∧ ((∀ (v : Int32) (S' : MM), (S' = S ∧ ∃ n, n < 4 ∧ p = nI n ∧ ((x = -1 ∧ v = nI (lnR x (txtG (R.Q.G n) (R.Q.T n)) 1 0 (if x = 0 then 0 else -1)).1) ∨ (x ≠ -1 ∧ v = (lnR x (txtG (R.Q.G n) (R.Q.T n)) 1 0 (if x = 0 then 0 else -1)).2.2 ∧ ¬ v < 0))) → K (some (.inl v)) S' (cs + 2) (sl + 12)) ∧ ((np 4 p) → Kx 1 S (cs + 2) (sl + 12)) ∧ ((∃ n, n < 4 ∧ p = nI n ∧ x ≠ -1 ∧ (lnR x (txtG (R.Q.G n) (R.Q.T n)) 1 0 (if x = 0 then 0 else -1)).2.2 < 0) → Kx 2 S (cs + 2) (sl + 12))))
  | _ => False
def sp_rli0 (t : Nat) (p : Int32) (x : Int32) (F : Nat → Nat × Nat) (z : Nat → Nat) (Y : Nat → Nat → Nat) (R : Rb) (kz : Nat → Nat) : Sp := (fun av S => av = [.inr (.inr (some t)), .inl p, .inl x] ∧ (MD S F t z Y R kz), fun _ S => 2, fun _ S => 12, fun _ S rv S' => ∃ v, rv = (some (.inl v)) ∧ (S' = S ∧ ∃ n, n < 4 ∧ p = nI n ∧ ((x = -1 ∧ v = nI (lnR x (txtG (R.Q.G n) (R.Q.T n)) 1 0 (if x = 0 then 0 else -1)).1) ∨ (x ≠ -1 ∧ v = (lnR x (txtG (R.Q.G n) (R.Q.T n)) 1 0 (if x = 0 then 0 else -1)).2.2 ∧ ¬ v < 0))), fun _ S E S' => (E = 1 ∧ (np 4 p) ∧ S' = S) ∨ (E = 2 ∧ (∃ n, n < 4 ∧ p = nI n ∧ x ≠ -1 ∧ (lnR x (txtG (R.Q.G n) (R.Q.T n)) 1 0 (if x = 0 then 0 else -1)).2.2 < 0) ∧ S' = S))
def tX14_line0 : CD := [(0, .aload_n 0), (1, .iload_n 1), (2, .invokevirtual 203), (5, .astore_n 3), (6, .iconst 1), (7, .istore 4), (9, .iconst 0), (10, .istore 5), (12, .iload_n 2), (13, .ifCond .ne 7), (16, .iconst 0), (17, .goto 4), (20, .iconst (-1)), (21, .istore 6), (23, .iconst 0), (24, .istore 7), (26, .iload 7), (28, .aload_n 3), (29, .getfield 239), (32, .if_icmp .ge 62), (35, .aload_n 3), (36, .aload_n 3), (37, .getfield 246), (40, .iload 7), (42, .iaload), (43, .invokevirtual 249), (46, .ifCond .ne 6), (49, .goto 39), (52, .iinc 5 1), (55, .aload_n 3), (56, .getfield 259), (59, .aload_n 3), (60, .getfield 246), (63, .iload 7), (65, .iaload), (66, .iaload), (67, .bipush 10), (69, .if_icmp .eq 6), (72, .goto 16), (75, .iload 4), (77, .iload_n 2), (78, .if_icmp .ne 7), (81, .iload 5), (83, .istore 6), (85, .iinc 4 1), (88, .iinc 7 1), (91, .goto (-65)), (94, .iload_n 2), (95, .iconst (-1)), (96, .if_icmp .ne 6), (99, .iload 4), (101, .ireturn), (102, .iload 6), (104, .ifCond .lt 7), (107, .iconst 1), (108, .goto 4), (111, .iconst 0), (112, .invokestatic 236), (115, .iload 6), (117, .ireturn)]
set_option maxRecDepth 100000 in
theorem kX14_line0 : chk cX14_line0 tX14_line0 = true := by decide +kernel
theorem vX14_line0_203 : ∀ w ∈ ([.methodLink RX14 203 yX14_graph, .instanceMethod yX14_graph, .selects yX14_graph.cls yX14_graph yX14_graph, .initialized yX14_graph.cls, .code yX14_graph cX14_graph 2 (some (.object "WeaveTextModel$Graph"))] : List Cond), w ∈ lw_good := List.forall_mem_cons.mpr ⟨mgd 1946 (by decide +kernel) (by decide +kernel), List.forall_mem_cons.mpr ⟨mgd 1948 (by decide +kernel) (by decide +kernel), List.forall_mem_cons.mpr ⟨mgd 52 (by decide +kernel) (by decide +kernel), List.forall_mem_cons.mpr ⟨mgd 136 (by decide +kernel) (by decide +kernel), List.forall_mem_cons.mpr ⟨mgd 1949 (by decide +kernel) (by decide +kernel), fun _ h => absurd h List.not_mem_nil⟩⟩⟩⟩⟩
theorem vX14_line0_249 : ∀ w ∈ ([.methodLink RX14 249 yX12_isShown, .instanceMethod yX12_isShown, .selects yX12_isShown.cls yX12_isShown yX12_isShown, .initialized yX12_isShown.cls, .code yX12_isShown cX12_isShown 2 (some .boolean)] : List Cond), w ∈ lw_good := List.forall_mem_cons.mpr ⟨mgd 2074 (by decide +kernel) (by decide +kernel), List.forall_mem_cons.mpr ⟨mgd 1955 (by decide +kernel) (by decide +kernel), List.forall_mem_cons.mpr ⟨mgd 1956 (by decide +kernel) (by decide +kernel), List.forall_mem_cons.mpr ⟨mgd 138 (by decide +kernel) (by decide +kernel), List.forall_mem_cons.mpr ⟨mgd 1957 (by decide +kernel) (by decide +kernel), fun _ h => absurd h List.not_mem_nil⟩⟩⟩⟩⟩
theorem vX14_line0_236 : ∀ w ∈ ([.methodLink RX14 236 yX14_there, .static yX14_there, .initialized yX14_there.cls, .code yX14_there cX14_there 1 none] : List Cond), w ∈ lw_good := List.forall_mem_cons.mpr ⟨mgd 2066 (by decide +kernel) (by decide +kernel), List.forall_mem_cons.mpr ⟨mgd 2067 (by decide +kernel) (by decide +kernel), List.forall_mem_cons.mpr ⟨mgd 136 (by decide +kernel) (by decide +kernel), List.forall_mem_cons.mpr ⟨mgd 2068 (by decide +kernel) (by decide +kernel), fun _ h => absurd h List.not_mem_nil⟩⟩⟩⟩
set_option maxRecDepth 100000 in
set_option maxHeartbeats 2000000 in
theorem c_rli0 (l : Launch) (hlt : l.stackTraces = false) : ∀ (t : Nat) (p : Int32) (x : Int32) (F : Nat → Nat × Nat) (z : Nat → Nat) (Y : Nat → Nat → Nat) (R : Rb) (kz : Nat → Nat), CtX l yX14_line0 (Cond.code yX14_line0 cX14_line0 8 (some .int)) (some .int) 8 130 (sp_rli0 t p x F z Y R kz) := by
  intro t p x F z Y R kz
  refine CtX.of hlt (fX14, nX14, aX14, iX14, lX14, [(203, 0, 2, 3, T_rgr), (249, 0, 2, 1, T_rish), (236, 2, 1, 0, T_rth)], qX14, gX14, []) false tX14_line0 (fun _ S => look [(26, ([2,3,4,5,6,7], I_li1 p x Y R S))]) (by decide) (by decide) kX14_line0 ⟨_, _, rfl⟩ fX14_ok nX14_ok aX14_ok iX14_ok lX14_ok (fun p e R s m args below meth c Q D cy z r A C hR1 hR2 => List.forall_mem_cons.mpr ⟨cOK_use (fun _ _ _ _ _ _ _ _ h => let ⟨sp, h1, h2, h3⟩ := u_rgr l hlt _ _ _ _ _ _ _ _ h; ⟨sp, cOKx_V C h1 vX14_line0_203 ⟨by decide, by decide, by decide +kernel⟩ ⟨by rw [hR1]; decide, by rw [hR2]; decide⟩ (k := 15) (T := TX14) (N := 52) rfl (by decide) h2, h3⟩), List.forall_mem_cons.mpr ⟨cOK_use (fun _ _ _ _ _ _ _ _ h => let ⟨sp, h1, h2, h3⟩ := u_rish l _ _ _ _ _ _ _ _ h; ⟨sp, cOK_V C h1 vX14_line0_249 ⟨by decide, by decide, by decide +kernel⟩ ⟨by rw [hR1]; decide, by rw [hR2]; decide⟩ (k := 13) (T := TX12) (N := 27) rfl (by decide) h2, h3⟩), List.forall_mem_cons.mpr ⟨cOK_use (fun _ _ _ _ _ _ _ _ h => let ⟨sp, h1, _, h3⟩ := u_rth l hlt _ _ _ _ _ _ _ _ h; ⟨sp, cOKx_S C h1 vX14_line0_236 ⟨by decide, by decide, by decide +kernel⟩ ⟨by rw [hR1]; decide, by rw [hR2]; decide⟩, h3⟩), fun _ h => absurd h List.not_mem_nil⟩⟩⟩) qX14_ok gX14_ok (fun _ h => absurd h List.not_mem_nil) ?_ ?_
  · rintro _ S ⟨rfl, hp⟩
    refine ⟨Nat.le_of_ble_eq_true rfl, 300, ?_⟩
    show (0 = 0 ∧ (∃ (F_1 : Nat → Nat × Nat) (z_2 : Nat → Nat) (Y_3 : Nat → Nat → Nat) (R_4 : Rb) (kz_5 : Nat → Nat), (MD S F_1 t z_2 Y_3 R_4 kz_5) ∧ 0 + 1 ≤ 2 ∧ 0 + 6 ≤ 12 ∧ ((∀ (x_7 : Option Nat) (S_6 : MM), (S_6 = S ∧ ∃ n, n < 4 ∧ p = nI n ∧ x_7 = some (Y_3 n 0)) → ((¬ x = 0 → (∃ k1, I_li1 p x Y R S k1 [(2, .inl x), (3, .inr (.inr x_7)), (4, .inl (1 : Int32)), (5, .inl (0 : Int32)), (6, .inl (-1 : Int32)), (7, .inl (0 : Int32))] [] S_6 (0 + 1) (0 + 6))) ∧ (x = 0 → (∃ k1, I_li1 p x Y R S k1 [(2, .inl x), (3, .inr (.inr x_7)), (4, .inl (1 : Int32)), (5, .inl (0 : Int32)), (6, .inl (0 : Int32)), (7, .inl (0 : Int32))] [] S_6 (0 + 1) (0 + 6))))) ∧ ((np 4 p) → mthr (sp_rli0 t p x F z Y R kz) [.inr (.inr (some t)), .inl p, .inl x] S 1 S (0 + 1) (0 + 6)))))
    refine ⟨rfl, F, z, Y, R, kz, hp, by decide, by decide, fun v S3 h => ?_, fun h => ⟨Or.inl ⟨rfl, h, rfl⟩, Nat.le_of_ble_eq_true rfl, Nat.le_of_ble_eq_true rfl⟩⟩
    obtain ⟨rfl, n, hn, hpn, rfl⟩ := h
    exact ⟨fun w => ⟨(R.Q.T n).od.length, n, 0, 1, 0, -1, Nat.zero_add _, hn, hpn, Nat.le_refl _, Nat.le_refl _, by rw [if_neg w]; rfl, rfl, rfl, rfl, rfl, rfl⟩, fun w => ⟨(R.Q.T n).od.length, n, 0, 1, 0, 0, Nat.zero_add _, hn, hpn, Nat.le_refl _, Nat.le_refl _, by rw [if_pos w]; rfl, rfl, rfl, rfl, rfl, rfl⟩⟩
  · intro av S hpre pc I hI k lo st S1 cs sl h
    obtain ⟨rfl, hp⟩ := hpre
    have hm := look_in hI
    rw [List.mem_singleton] at hm
    cases hm
    obtain ⟨n, j, l, i, b, hj, hn, hpn, hl, hi, hR, rfl, rfl, rfl, rfl, rfl⟩ := h
    refine ⟨300, ?_⟩
    show (isO S 13 (Y n 0) ∧ (((mI S 1302 (Y n 0)) ≤ (nI j) → ((¬ x = (-1 : Int32) → ((b < 0 → (2 = 2 ∧ (((0 : Int32) = 0 ∨ (0 : Int32) = 1) ∧ 1 + 1 ≤ 2 ∧ 6 + 6 ≤ 12 ∧ ((∀ (S_1 : MM), (S_1 = S ∧ (0 : Int32) = 1) → (([] : List MV) = [] ∧ mret (some .int) (sp_rli0 t p x F z Y R kz) [.inr (.inr (some t)), .inl p, .inl x] S (some (.inl b)) S_1 (1 + 1) (6 + 6))) ∧ (((0 : Int32) = 0) → mthr (sp_rli0 t p x F z Y R kz) [.inr (.inr (some t)), .inl p, .inl x] S 2 S (1 + 1) (6 + 6)))))) ∧ (¬ b < 0 → (2 = 2 ∧ (((1 : Int32) = 0 ∨ (1 : Int32) = 1) ∧ 1 + 1 ≤ 2 ∧ 6 + 6 ≤ 12 ∧ ((∀ (S_3 : MM), (S_3 = S ∧ (1 : Int32) = 1) → (([] : List MV) = [] ∧ mret (some .int) (sp_rli0 t p x F z Y R kz) [.inr (.inr (some t)), .inl p, .inl x] S (some (.inl b)) S_3 (1 + 1) (6 + 6))) ∧ (((1 : Int32) = 0) → mthr (sp_rli0 t p x F z Y R kz) [.inr (.inr (some t)), .inl p, .inl x] S 2 S (1 + 1) (6 + 6)))))))) ∧ (x = (-1 : Int32) → (([] : List MV) = [] ∧ mret (some .int) (sp_rli0 t p x F z Y R kz) [.inr (.inr (some t)), .inl p, .inl x] S (some (.inl (nI l))) S 1 6)))) ∧ (¬ (mI S 1302 (Y n 0)) ≤ (nI j) → (isO S 13 (Y n 0) ∧ (pa (mR S 1321 (Y n 0)) fun a_5 => ∃ v_6 : Int32, (isO S 17 a_5 ∧ inR S a_5 (nI j) ∧ v_6 = eI S a_5 (nI j).toNatClampNeg ∨ a_5 = (mQ S).1 ∧ vp_in (nI j) 16 ∧ v_6 = mRem (nI j).toNatClampNeg) ∧ (0 = 0 ∧ (∃ (k1_7 : Nat), v_6 = nI k1_7 ∧ (∃ (F_8 : Nat → Nat × Nat) (i_9 : Nat) (y_10 : Nat → Nat) (G_11 : Gr) (T_12 : Tr), ((Y n 0) = y_10 0 ∧ RG S F_8 i_9 y_10 G_11 T_12 ∧ k1_7 < G_11.n) ∧ 1 ≤ 2 ∧ 6 ≤ 12 ∧ (((¬ (bI (vis G_11 (k1_7 + 1))) = 0 → (isO S 13 (Y n 0) ∧ (isO S 13 (Y n 0) ∧ (pa (mR S 1321 (Y n 0)) fun a_14 => ∃ v_15 : Int32, (isO S 17 a_14 ∧ inR S a_14 (nI j) ∧ v_15 = eI S a_14 (nI j).toNatClampNeg ∨ a_14 = (mQ S).1 ∧ vp_in (nI j) 16 ∧ v_15 = mRem (nI j).toNatClampNeg) ∧ (pa (mR S 1311 (Y n 0)) fun a_16 => ∃ v_17 : Int32, (isO S 17 a_16 ∧ inR S a_16 v_15 ∧ v_17 = eI S a_16 v_15.toNatClampNeg ∨ a_16 = (mQ S).1 ∧ vp_in v_15 16 ∧ v_17 = mRem v_15.toNatClampNeg) ∧ ((v_17 = (10 : Int32) → ((¬ (nI l) = x → (∃ k1, k1 < k ∧ I_li1 p x Y R S k1 [(2, .inl x), (3, .inr (.inr (some (Y n 0)))), (4, .inl ((nI l) + (1 : Int32))), (5, .inl ((nI i) + (1 : Int32))), (6, .inl b), (7, .inl ((nI j) + (1 : Int32)))] [] S 1 6)) ∧ ((nI l) = x → (∃ k1, k1 < k ∧ I_li1 p x Y R S k1 [(2, .inl x), (3, .inr (.inr (some (Y n 0)))), (4, .inl ((nI l) + (1 : Int32))), (5, .inl ((nI i) + (1 : Int32))), (6, .inl ((nI i) + (1 : Int32))), (7, .inl ((nI j) + (1 : Int32)))] [] S 1 6)))) ∧ (¬ v_17 = (10 : Int32) → (∃ k1, k1 < k ∧ I_li1 p x Y R S k1 [(2, .inl x), (3, .inr (.inr (some (Y n 0)))), (4, .inl (nI l)), (5, .inl ((nI i) + (1 : Int32))), (6, .inl b), (7, .inl ((nI j) + (1 : Int32)))] [] S 1 6)))))))) ∧ ((bI (vis G_11 (k1_7 + 1))) = 0 → (∃ k1, k1 < k ∧ I_li1 p x Y R S k1 [(2, .inl x), (3, .inr (.inr (some (Y n 0)))), (4, .inl (nI l)), (5, .inl (nI i)), (6, .inl b), (7, .inl ((nI j) + (1 : Int32)))] [] S 1 6))))))))))))
    have g := (hp 2 n hn).2.1
    have hnm := g.nm
    have hol := g.odl
    have e1 : mI S 1302 (Y n 0) = nI (R.Q.T n).od.length := (g 2).2.2
    rw [e1]
    refine ⟨(g 0).1, if_le (by omega) (by omega) (fun w => ?_) (fun w => ?_)⟩
    · rw [List.drop_of_length_le w] at hR
      have hR : lnR x (txtG (R.Q.G n) (R.Q.T n)) 1 0 (if x = 0 then 0 else -1) = (l, i, b) := hR
      refine ⟨fun hx => ⟨fun hb => ⟨rfl, Or.inl rfl, by decide, by decide, fun S1 h => absurd h.2 (by decide), fun _ => ⟨Or.inr ⟨rfl, ⟨n, hn, hpn, hx, by rw [hR]; exact hb⟩, rfl⟩, Nat.le_of_ble_eq_true rfl, Nat.le_of_ble_eq_true rfl⟩⟩, fun hb => ⟨rfl, Or.inr rfl, by decide, by decide, fun S3 h => ?_, fun h => absurd h (by decide)⟩⟩, fun hx => ⟨rfl, trivial, ⟨_, rfl, rfl, n, hn, hpn, Or.inl ⟨hx, by rw [hR]⟩⟩, Nat.le_of_ble_eq_true rfl, Nat.le_of_ble_eq_true rfl⟩⟩
      obtain ⟨rfl, -⟩ := h
      exact ⟨rfl, trivial, ⟨_, rfl, rfl, n, hn, hpn, Or.inr ⟨hx, by rw [hR], hb⟩⟩, Nat.le_of_ble_eq_true rfl, Nat.le_of_ble_eq_true rfl⟩
    · obtain ⟨y, hy, hyn, hyc, hyo⟩ := g.odn w
      have hdr : (R.Q.T n).od.drop j = (y + 1) :: (R.Q.T n).od.drop (j + 1) := by
        rw [List.drop_eq_getElem_cons w, ← hy, List.getD_eq_getElem?_getD, List.getElem?_eq_getElem w]; rfl
      rw [hdr] at hR
      refine ⟨(g 0).1, g.g21 w ⟨rfl, y, by rw [hy]; rfl, F, 101 + n, Y n, R.Q.G n, R.Q.T n, ⟨rfl, g, hyn⟩, by decide, by decide, fun q => ?_, fun q => ?_⟩⟩
      · rw [bI_0, Bool.not_eq_false] at q
        obtain ⟨c, hc⟩ : ∃ c, ((R.Q.G n).ev y).ch = some c := by
          cases h9 : ((R.Q.G n).ev y).ch with
          | none => exact absurd h9 hyc
          | some c => exact ⟨c, rfl⟩
        have hc' : chI ((R.Q.G n).ev y).ch = nI c := by rw [hc]; rfl
        rw [List.filter_cons_of_pos q, List.map_cons, lnR, Nat.add_sub_cancel, hc'] at hR
        refine ⟨(g 0).1, (g 0).1, g.g21 w ?_⟩
        rw [hy, Nat.add_sub_cancel]
        refine rdI (v := nI c) g.r11.1 g.r11.2.1 (inRn g.r11.2.2 (by omega) (by decide)) (by rw [nI_clamp (by omega)]; exact ((g 6 y hyn).1 c hc).2) ⟨fun h10 => ⟨fun hx => ?_, fun hx => ?_⟩, fun h10 => ?_⟩
        · rw [if_pos h10, if_neg hx] at hR
          exact ⟨k - 1, by omega, n, j + 1, l + 1, i + 1, b, by omega, hn, hpn, by omega, by omega, hR, by rw [nI_1, nI_1, nI_1], rfl, rfl, rfl, rfl⟩
        · rw [if_pos h10, if_pos hx] at hR
          exact ⟨k - 1, by omega, n, j + 1, l + 1, i + 1, nI (i + 1), by omega, hn, hpn, by omega, by omega, hR, by rw [nI_1, nI_1, nI_1], rfl, rfl, rfl, rfl⟩
        · rw [if_neg h10] at hR
          exact ⟨k - 1, by omega, n, j + 1, l, i + 1, b, by omega, hn, hpn, by omega, by omega, hR, by rw [nI_1, nI_1], rfl, rfl, rfl, rfl⟩
      · rw [bI_0] at q
        rw [List.filter_cons_of_neg (by rw [q]; decide)] at hR
        exact ⟨k - 1, by omega, n, j + 1, l, i, b, by omega, hn, hpn, by omega, by omega, hR, by rw [nI_1], rfl, rfl, rfl, rfl⟩
theorem u_rli0 (l : Launch) (hlt : l.stackTraces = false) : UsX l yX14_line0 (Cond.code yX14_line0 cX14_line0 8 (some .int)) (some .int) 8 130 15 T_rli0 := by
  intro Rc Rs av S cs sl K Kx h
  unfold T_rli0 at h
  split at h
  · rename_i t_o p x
    obtain ⟨t, rfl, h_1⟩ := pa_of h
    obtain ⟨F, z, Y, R, kz, hp, hc, hs, hk, hx0, hx1⟩ := h_1
    refine ⟨(sp_rli0 t p x F z Y R kz), c_rli0 l hlt t p x F z Y R kz, fun _ _ h9 => ⟨_, _, h9.1, (h9.2 0).1⟩, ⟨rfl, hp⟩, hc, hs, fun v9 S' h8 => by
      obtain ⟨v8, h7, h8⟩ := h8
      cases h7
      exact hk _ _ h8, fun _ _ q => by
      rcases q with ⟨rfl, q⟩ | ⟨rfl, q⟩
      · obtain ⟨q, rfl⟩ := q
        exact hx0 q
      · obtain ⟨q, rfl⟩ := q
        exact hx1 q⟩
  · exact h.elim
def T_roc1 : TR := fun Rc Rs av S cs sl K _Kx => match av with
  | [.inr (.inr t_o), .inl s, .inl x] => pa t_o fun t => (∃ (F : Nat → Nat × Nat) (z : Nat → Nat) (Y : Nat → Nat → Nat) (R : Rb) (kz : Nat → Nat), (MD S F t z Y R kz) ∧ cs + 3 ≤ Rc ∧ sl + 18 ≤ Rs ∧ (∀ (v : Int32) (S' : MM), (∃ th, mdW S S' F t R kz th ∧ ((th = 0 ∧ ∃ i, i < 8 ∧ s = nI i ∧ ocP (R.Q.sl i) x v) ∨ (th = 1 ∧ (np 8 s ∨ x < -1 ∨ (∃ i, i < 8 ∧ s = nI i ∧ R.Q.sl i ≠ [] ∧ nI (R.Q.sl i).length ≤ x)) ∧ v = 0) ∨ (th = 2 ∧ (∃ i, i < 8 ∧ s = nI i ∧ R.Q.sl i = [] ∧ ¬ x < -1) ∧ v = 0))) → K (some (.inl v)) S' (cs + 3) (sl + 18)))
  | _ => False
def sp_roc1 (t : Nat) (s : Int32) (x : Int32) (F : Nat → Nat × Nat) (z : Nat → Nat) (Y : Nat → Nat → Nat) (R : Rb) (kz : Nat → Nat) : Sp := (fun av S => av = [.inr (.inr (some t)), .inl s, .inl x] ∧ (MD S F t z Y R kz), fun _ S => 3, fun _ S => 18, fun _ S rv S' => ∃ v, rv = (some (.inl v)) ∧ (∃ th, mdW S S' F t R kz th ∧ ((th = 0 ∧ ∃ i, i < 8 ∧ s = nI i ∧ ocP (R.Q.sl i) x v) ∨ (th = 1 ∧ (np 8 s ∨ x < -1 ∨ (∃ i, i < 8 ∧ s = nI i ∧ R.Q.sl i ≠ [] ∧ nI (R.Q.sl i).length ≤ x)) ∧ v = 0) ∨ (th = 2 ∧ (∃ i, i < 8 ∧ s = nI i ∧ R.Q.sl i = [] ∧ ¬ x < -1) ∧ v = 0))), fun _ _ _ _ => False)
def tX14_octet : CD := [(0, .aload_n 0), (1, .iconst 0), (2, .putfield 512), (5, .aload_n 0), (6, .iload_n 1), (7, .iload_n 2), (8, .invokevirtual 600), (11, .ireturn), (12, .astore_n 3), (13, .aload_n 0), (14, .iconst 1), (15, .putfield 512), (18, .goto 9), (21, .astore_n 3), (22, .aload_n 0), (23, .iconst 2), (24, .putfield 512), (27, .iconst 0), (28, .ireturn)]
set_option maxRecDepth 100000 in
theorem kX14_octet : chk cX14_octet tX14_octet = true := by decide +kernel
theorem vX14_octet_600 : ∀ w ∈ ([.methodLink RX14 600 yX14_octet0, .instanceMethod yX14_octet0, .selects yX14_octet0.cls yX14_octet0 yX14_octet0, .initialized yX14_octet0.cls, .code yX14_octet0 cX14_octet0 3 (some .int)] : List Cond), w ∈ lw_good := List.forall_mem_cons.mpr ⟨mgd 2451 (by decide +kernel) (by decide +kernel), List.forall_mem_cons.mpr ⟨mgd 2453 (by decide +kernel) (by decide +kernel), List.forall_mem_cons.mpr ⟨mgd 116 (by decide +kernel) (by decide +kernel), List.forall_mem_cons.mpr ⟨mgd 136 (by decide +kernel) (by decide +kernel), List.forall_mem_cons.mpr ⟨mgd 2454 (by decide +kernel) (by decide +kernel), fun _ h => absurd h List.not_mem_nil⟩⟩⟩⟩⟩
set_option maxRecDepth 100000 in
set_option maxHeartbeats 2000000 in
theorem c_roc1 (l : Launch) (hlt : l.stackTraces = false) : ∀ (t : Nat) (s : Int32) (x : Int32) (F : Nat → Nat × Nat) (z : Nat → Nat) (Y : Nat → Nat → Nat) (R : Rb) (kz : Nat → Nat), CtX l yX14_octet (Cond.codeWith yX14_octet cX14_octet 4 (some .int) [(5, 11, 12, 138), (5, 11, 21, 141)]) (some .int) 8 131 (sp_roc1 t s x F z Y R kz) := by
  intro t s x F z Y R kz
  refine CtX.ofH hlt (fX14, nX14, aX14, iX14, lX14, [(600, 0, 3, 1, T_roc0)], qX14, gX14, []) false tX14_octet [((5, 11, 12, 138), 1), ((5, 11, 21, 141), 2)] (fun _ _ _ => none) (by decide) (by decide) kX14_octet ⟨_, _, rfl⟩ fX14_ok nX14_ok aX14_ok iX14_ok lX14_ok (fun p e R s m args below meth c Q D cy z r A C hR1 hR2 => List.forall_mem_cons.mpr ⟨cOK_use (fun _ _ _ _ _ _ _ _ h => let ⟨sp, h1, h2, h3⟩ := u_roc0 l hlt _ _ _ _ _ _ _ _ h; ⟨sp, cOKx_V C h1 vX14_octet_600 ⟨by decide, by decide, by decide +kernel⟩ ⟨by rw [hR1]; decide, by rw [hR2]; decide⟩ (k := 15) (T := TX14) (N := 52) rfl (by decide) h2, h3⟩), fun _ h => absurd h List.not_mem_nil⟩) qX14_ok gX14_ok rfl (List.forall_mem_cons.mpr ⟨⟨by decide, mgd 1925 (by decide +kernel) (by decide +kernel)⟩, List.forall_mem_cons.mpr ⟨⟨by decide, mgd 2061 (by decide +kernel) (by decide +kernel)⟩, fun _ h => absurd h List.not_mem_nil⟩⟩) (fun _ _ _ _ z => z) ?_ ?_
  · rintro _ S ⟨rfl, hp⟩
    refine ⟨Nat.le_of_ble_eq_true rfl, 300, ?_⟩
    show (True ∧ (isO S 15 t ∧ (0 = 0 ∧ (∃ (F_1 : Nat → Nat × Nat) (z_2 : Nat → Nat) (Y_3 : Nat → Nat → Nat) (R_4 : Rb) (kz_5 : Nat → Nat), (MD (sI S 1551 t (0 : Int32)) F_1 t z_2 Y_3 R_4 kz_5) ∧ 0 + 3 ≤ 3 ∧ 0 + 18 ≤ 18 ∧ ((∀ (x_7 : Int32) (S_6 : MM), (S_6 = (sI S 1551 t (0 : Int32)) ∧ ∃ i, i < 8 ∧ s = nI i ∧ ocP (R_4.Q.sl i) x x_7) → (([] : List MV) = [] ∧ mret (some .int) (sp_roc1 t s x F z Y R kz) [.inr (.inr (some t)), .inl s, .inl x] S (some (.inl x_7)) S_6 (0 + 3) (0 + 18))) ∧ ((np 8 s ∨ x < -1 ∨ (∃ i, i < 8 ∧ s = nI i ∧ R_4.Q.sl i ≠ [] ∧ nI (R_4.Q.sl i).length ≤ x)) → (∀ e_9, (True ∧ (isO (sI S 1551 t (0 : Int32)) 15 t ∧ (([] : List MV) = [] ∧ mret (some .int) (sp_roc1 t s x F z Y R kz) [.inr (.inr (some t)), .inl s, .inl x] S (some (.inl (0 : Int32))) (sI (sI S 1551 t (0 : Int32)) 1551 t (1 : Int32)) (0 + 3) (0 + 18)))))) ∧ ((∃ i, i < 8 ∧ s = nI i ∧ R_4.Q.sl i = [] ∧ ¬ x < -1) → (∀ e_11, (True ∧ (isO (sI S 1551 t (0 : Int32)) 15 t ∧ (([] : List MV) = [] ∧ mret (some .int) (sp_roc1 t s x F z Y R kz) [.inr (.inr (some t)), .inl s, .inl x] S (some (.inl (0 : Int32))) (sI (sI S 1551 t (0 : Int32)) 1551 t (2 : Int32)) (0 + 3) (0 + 18)))))))))))
    refine ⟨trivial, (hp 0).1, rfl, F, z, Y, R, kz, hp.th 0, by decide, by decide, fun v S3 h => ?_, fun h e => ⟨trivial, (hp 0).1, rfl, trivial, ⟨_, rfl, 1, (hp.ex0 1 rfl).w hp, Or.inr (Or.inl ⟨rfl, h, rfl⟩)⟩, Nat.le_refl _, Nat.le_refl _⟩, fun h e => ⟨trivial, (hp 0).1, rfl, trivial, ⟨_, rfl, 2, (hp.ex0 2 rfl).w hp, Or.inr (Or.inr ⟨rfl, h, rfl⟩)⟩, Nat.le_refl _, Nat.le_refl _⟩⟩
    obtain ⟨rfl, h⟩ := h
    exact ⟨rfl, trivial, ⟨_, rfl, 0, hp.ok0.w hp, Or.inl ⟨rfl, h⟩⟩, Nat.le_refl _, Nat.le_refl _⟩
  · exact fun _ _ _ _ _ h => by cases h
theorem u_roc1 (l : Launch) (hlt : l.stackTraces = false) : UsX l yX14_octet (Cond.codeWith yX14_octet cX14_octet 4 (some .int) [(5, 11, 12, 138), (5, 11, 21, 141)]) (some .int) 8 131 15 T_roc1 := by
  intro Rc Rs av S cs sl K Kx h
  unfold T_roc1 at h
  split at h
  · rename_i t_o s x
    obtain ⟨t, rfl, h_1⟩ := pa_of h
    obtain ⟨F, z, Y, R, kz, hp, hc, hs, hk⟩ := h_1
    refine ⟨(sp_roc1 t s x F z Y R kz), c_roc1 l hlt t s x F z Y R kz, fun _ _ h9 => ⟨_, _, h9.1, (h9.2 0).1⟩, ⟨rfl, hp⟩, hc, hs, fun v9 S' h8 => by
      obtain ⟨v8, h7, h8⟩ := h8
      cases h7
      exact hk _ _ h8, fun _ _ q => q.elim⟩
  · exact h.elim
def T_rli1 : TR := fun Rc Rs av S cs sl K _Kx => match av with
  | [.inr (.inr t_o), .inl p, .inl x] => pa t_o fun t => (∃ (F : Nat → Nat × Nat) (z : Nat → Nat) (Y : Nat → Nat → Nat) (R : Rb) (kz : Nat → Nat), (MD S F t z Y R kz) ∧ cs + 2 ≤ Rc ∧ sl + 12 ≤ Rs ∧ (∀ (v : Int32) (S' : MM), (∃ th, mdW S S' F t R kz th ∧ ((th = 0 ∧ ∃ n, n < 4 ∧ p = nI n ∧ ((x = -1 ∧ v = nI (lnR x (txtG (R.Q.G n) (R.Q.T n)) 1 0 (if x = 0 then 0 else -1)).1) ∨ (x ≠ -1 ∧ v = (lnR x (txtG (R.Q.G n) (R.Q.T n)) 1 0 (if x = 0 then 0 else -1)).2.2 ∧ ¬ v < 0))) ∨ (th = 1 ∧ np 4 p ∧ v = 0) ∨ (th = 2 ∧ (∃ n, n < 4 ∧ p = nI n ∧ x ≠ -1 ∧ (lnR x (txtG (R.Q.G n) (R.Q.T n)) 1 0 (if x = 0 then 0 else -1)).2.2 < 0) ∧ v = 0))) → K (some (.inl v)) S' (cs + 2) (sl + 12)))
  | _ => False
def sp_rli1 (t : Nat) (p : Int32) (x : Int32) (F : Nat → Nat × Nat) (z : Nat → Nat) (Y : Nat → Nat → Nat) (R : Rb) (kz : Nat → Nat) : Sp := (fun av S => av = [.inr (.inr (some t)), .inl p, .inl x] ∧ (MD S F t z Y R kz), fun _ S => 2, fun _ S => 12, fun _ S rv S' => ∃ v, rv = (some (.inl v)) ∧ (∃ th, mdW S S' F t R kz th ∧ ((th = 0 ∧ ∃ n, n < 4 ∧ p = nI n ∧ ((x = -1 ∧ v = nI (lnR x (txtG (R.Q.G n) (R.Q.T n)) 1 0 (if x = 0 then 0 else -1)).1) ∨ (x ≠ -1 ∧ v = (lnR x (txtG (R.Q.G n) (R.Q.T n)) 1 0 (if x = 0 then 0 else -1)).2.2 ∧ ¬ v < 0))) ∨ (th = 1 ∧ np 4 p ∧ v = 0) ∨ (th = 2 ∧ (∃ n, n < 4 ∧ p = nI n ∧ x ≠ -1 ∧ (lnR x (txtG (R.Q.G n) (R.Q.T n)) 1 0 (if x = 0 then 0 else -1)).2.2 < 0) ∧ v = 0))), fun _ _ _ _ => False)
def tX14_line : CD := [(0, .aload_n 0), (1, .iconst 0), (2, .putfield 512), (5, .aload_n 0), (6, .iload_n 1), (7, .iload_n 2), (8, .invokevirtual 538), (11, .ireturn), (12, .astore_n 3), (13, .aload_n 0), (14, .iconst 1), (15, .putfield 512), (18, .goto 9), (21, .astore_n 3), (22, .aload_n 0), (23, .iconst 2), (24, .putfield 512), (27, .iconst 0), (28, .ireturn)]
set_option maxRecDepth 100000 in
theorem kX14_line : chk cX14_line tX14_line = true := by decide +kernel
theorem vX14_line_538 : ∀ w ∈ ([.methodLink RX14 538 yX14_line0, .instanceMethod yX14_line0, .selects yX14_line0.cls yX14_line0 yX14_line0, .initialized yX14_line0.cls, .code yX14_line0 cX14_line0 8 (some .int)] : List Cond), w ∈ lw_good := List.forall_mem_cons.mpr ⟨mgd 2103 (by decide +kernel) (by decide +kernel), List.forall_mem_cons.mpr ⟨mgd 2105 (by decide +kernel) (by decide +kernel), List.forall_mem_cons.mpr ⟨mgd 68 (by decide +kernel) (by decide +kernel), List.forall_mem_cons.mpr ⟨mgd 136 (by decide +kernel) (by decide +kernel), List.forall_mem_cons.mpr ⟨mgd 2106 (by decide +kernel) (by decide +kernel), fun _ h => absurd h List.not_mem_nil⟩⟩⟩⟩⟩
set_option maxRecDepth 100000 in
set_option maxHeartbeats 2000000 in
theorem c_rli1 (l : Launch) (hlt : l.stackTraces = false) : ∀ (t : Nat) (p : Int32) (x : Int32) (F : Nat → Nat × Nat) (z : Nat → Nat) (Y : Nat → Nat → Nat) (R : Rb) (kz : Nat → Nat), CtX l yX14_line (Cond.codeWith yX14_line cX14_line 4 (some .int) [(5, 11, 12, 138), (5, 11, 21, 141)]) (some .int) 9 157 (sp_rli1 t p x F z Y R kz) := by
  intro t p x F z Y R kz
  refine CtX.ofH hlt (fX14, nX14, aX14, iX14, lX14, [(538, 0, 3, 1, T_rli0)], qX14, gX14, []) false tX14_line [((5, 11, 12, 138), 1), ((5, 11, 21, 141), 2)] (fun _ _ _ => none) (by decide) (by decide) kX14_line ⟨_, _, rfl⟩ fX14_ok nX14_ok aX14_ok iX14_ok lX14_ok (fun p e R s m args below meth c Q D cy z r A C hR1 hR2 => List.forall_mem_cons.mpr ⟨cOK_use (fun _ _ _ _ _ _ _ _ h => let ⟨sp, h1, h2, h3⟩ := u_rli0 l hlt _ _ _ _ _ _ _ _ h; ⟨sp, cOKx_V C h1 vX14_line_538 ⟨by decide, by decide, by decide +kernel⟩ ⟨by rw [hR1]; decide, by rw [hR2]; decide⟩ (k := 15) (T := TX14) (N := 52) rfl (by decide) h2, h3⟩), fun _ h => absurd h List.not_mem_nil⟩) qX14_ok gX14_ok rfl (List.forall_mem_cons.mpr ⟨⟨by decide, mgd 1925 (by decide +kernel) (by decide +kernel)⟩, List.forall_mem_cons.mpr ⟨⟨by decide, mgd 2061 (by decide +kernel) (by decide +kernel)⟩, fun _ h => absurd h List.not_mem_nil⟩⟩) (fun _ _ _ _ z => z) ?_ ?_
  · rintro _ S ⟨rfl, hp⟩
    refine ⟨Nat.le_of_ble_eq_true rfl, 300, ?_⟩
    show (True ∧ (isO S 15 t ∧ (0 = 0 ∧ (∃ (F_1 : Nat → Nat × Nat) (z_2 : Nat → Nat) (Y_3 : Nat → Nat → Nat) (R_4 : Rb) (kz_5 : Nat → Nat), (MD (sI S 1551 t (0 : Int32)) F_1 t z_2 Y_3 R_4 kz_5) ∧ 0 + 2 ≤ 2 ∧ 0 + 12 ≤ 12 ∧ ((∀ (x_7 : Int32) (S_6 : MM), (S_6 = (sI S 1551 t (0 : Int32)) ∧ ∃ n, n < 4 ∧ p = nI n ∧ ((x = -1 ∧ x_7 = nI (lnR x (txtG (R_4.Q.G n) (R_4.Q.T n)) 1 0 (if x = 0 then 0 else -1)).1) ∨ (x ≠ -1 ∧ x_7 = (lnR x (txtG (R_4.Q.G n) (R_4.Q.T n)) 1 0 (if x = 0 then 0 else -1)).2.2 ∧ ¬ x_7 < 0))) → (([] : List MV) = [] ∧ mret (some .int) (sp_rli1 t p x F z Y R kz) [.inr (.inr (some t)), .inl p, .inl x] S (some (.inl x_7)) S_6 (0 + 2) (0 + 12))) ∧ ((np 4 p) → (∀ e_9, (True ∧ (isO (sI S 1551 t (0 : Int32)) 15 t ∧ (([] : List MV) = [] ∧ mret (some .int) (sp_rli1 t p x F z Y R kz) [.inr (.inr (some t)), .inl p, .inl x] S (some (.inl (0 : Int32))) (sI (sI S 1551 t (0 : Int32)) 1551 t (1 : Int32)) (0 + 2) (0 + 12)))))) ∧ ((∃ n, n < 4 ∧ p = nI n ∧ x ≠ -1 ∧ (lnR x (txtG (R_4.Q.G n) (R_4.Q.T n)) 1 0 (if x = 0 then 0 else -1)).2.2 < 0) → (∀ e_11, (True ∧ (isO (sI S 1551 t (0 : Int32)) 15 t ∧ (([] : List MV) = [] ∧ mret (some .int) (sp_rli1 t p x F z Y R kz) [.inr (.inr (some t)), .inl p, .inl x] S (some (.inl (0 : Int32))) (sI (sI S 1551 t (0 : Int32)) 1551 t (2 : Int32)) (0 + 2) (0 + 12)))))))))))
    refine ⟨trivial, (hp 0).1, rfl, F, z, Y, R, kz, hp.th 0, by decide, by decide, fun v S3 h => ?_, fun h e => ⟨trivial, (hp 0).1, rfl, trivial, ⟨_, rfl, 1, (hp.ex0 1 rfl).w hp, Or.inr (Or.inl ⟨rfl, h, rfl⟩)⟩, Nat.le_refl _, Nat.le_refl _⟩, fun h e => ⟨trivial, (hp 0).1, rfl, trivial, ⟨_, rfl, 2, (hp.ex0 2 rfl).w hp, Or.inr (Or.inr ⟨rfl, h, rfl⟩)⟩, Nat.le_refl _, Nat.le_refl _⟩⟩
    obtain ⟨rfl, h⟩ := h
    exact ⟨rfl, trivial, ⟨_, rfl, 0, hp.ok0.w hp, Or.inl ⟨rfl, h⟩⟩, Nat.le_refl _, Nat.le_refl _⟩
  · exact fun _ _ _ _ _ h => by cases h
theorem u_rli1 (l : Launch) (hlt : l.stackTraces = false) : UsX l yX14_line (Cond.codeWith yX14_line cX14_line 4 (some .int) [(5, 11, 12, 138), (5, 11, 21, 141)]) (some .int) 9 157 15 T_rli1 := by
  intro Rc Rs av S cs sl K Kx h
  unfold T_rli1 at h
  split at h
  · rename_i t_o p x
    obtain ⟨t, rfl, h_1⟩ := pa_of h
    obtain ⟨F, z, Y, R, kz, hp, hc, hs, hk⟩ := h_1
    refine ⟨(sp_rli1 t p x F z Y R kz), c_rli1 l hlt t p x F z Y R kz, fun _ _ h9 => ⟨_, _, h9.1, (h9.2 0).1⟩, ⟨rfl, hp⟩, hc, hs, fun v9 S' h8 => by
      obtain ⟨v8, h7, h8⟩ := h8
      cases h7
      exact hk _ _ h8, fun _ _ q => q.elim⟩
  · exact h.elim
