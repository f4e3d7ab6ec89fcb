/-! ===== PatchReader.areSpansSound ===== -/
def rdL (B L : List Nat) (qs qp qo : Nat) : Nat → Nat → Nat → RdT → List SpT → Option (List SpT × Nat × RdT)
  | 0, _, _, _, _ => none
  | f + 1, T, I, st, A => if T < 8192 ∧ st.1 < qs then (match rdS B L qs qp qo st with
    | none => none
    | some (s, st') => if s.2.2.1 ≤ 8192 - T ∧ ¬ (T = 0 ∧ s.2.2.2.1 = 0) then rdL B L qs qp qo f (T + s.2.2.1) (I + if s.2.2.2.2.2.2.1 = 0 then s.2.2.1 else 0) st' (A ++ [s]) else none) else some (A, I, st)
/-- the spans of a patch with so many symbols, if they are sound -/
def rdAll (B L : List Nat) (qs qp qo ps pp po sy : Nat) : Option (List SpT) := (rdL B L qs qp qo 8193 0 0 (ps, pp, po, 0) []).bind fun x => if qs ≤ x.2.2.1 ∧ qp ≤ x.2.2.2.1 ∧ qo ≤ x.2.2.2.2.1 ∧ x.2.1 = sy then some x.1 else none
section RDLS
variable {B L : List Nat} {qs qp qo f T I : Nat} {st st' : RdT} {A : List SpT} {s : SpT}
theorem rdL_1 (h : ¬ (T < 8192 ∧ st.1 < qs)) : rdL B L qs qp qo (f + 1) T I st A = some (A, I, st) := by rw [rdL]; exact if_neg h
theorem rdL_2 (h : T < 8192 ∧ st.1 < qs) (h2 : rdS B L qs qp qo st = none) : rdL B L qs qp qo (f + 1) T I st A = none := by rw [rdL, h2]; exact if_pos h
theorem rdL_3 (h : T < 8192 ∧ st.1 < qs) (h2 : rdS B L qs qp qo st = some (s, st')) (h3 : ¬ (s.2.2.1 ≤ 8192 - T ∧ ¬ (T = 0 ∧ s.2.2.2.1 = 0))) : rdL B L qs qp qo (f + 1) T I st A = none := by
  rw [rdL, h2]
  exact (if_pos h).trans (if_neg h3)
theorem rdL_4 (h : T < 8192 ∧ st.1 < qs) (h2 : rdS B L qs qp qo st = some (s, st')) (h3 : s.2.2.1 ≤ 8192 - T ∧ ¬ (T = 0 ∧ s.2.2.2.1 = 0)) : rdL B L qs qp qo (f + 1) T I st A = rdL B L qs qp qo f (T + s.2.2.1) (I + if s.2.2.2.2.2.2.1 = 0 then s.2.2.1 else 0) st' (A ++ [s]) := by
  rw [rdL, h2]
  exact (if_pos h).trans (if_pos h3)
theorem rdO_b {q p z k p' : Nat} {e i e' : Int} (hB : ∀ b ∈ B, b < 256) (h : rdO B q p z e = some (k, i, e', p')) : e' = i + opS k * z ∧ -1073741824 ≤ i - e ∧ i - e ≤ 1073741824 := by
  cases ev : (vint B q p).1 with
  | none => rw [rdO_1 ev] at h; cases h
  | some c =>
    have hc := zz_b (vint_lt hB ev)
    by_cases hn : 0 ≤ e + zz c ∧ 0 ≤ e + zz c + opS (c % 3) * ((z : Int) - 1)
    · rw [rdO_3 ev hn] at h
      injection h with h
      injection h with h1 h2
      injection h2 with h2 h3
      injection h3 with h3 h4
      subst h1 h2 h3
      exact ⟨rfl, by omega, by omega⟩
    · rw [rdO_2 ev hn] at h; cases h
theorem rdS_b (hB : ∀ b ∈ B, b < 256) (h : rdS B L qs qp qo st = some (s, st')) : st'.2.2.2 = s.2.2.2.2.2.2.2 + opS s.2.2.2.2.2.2.1 * s.2.2.1 ∧ -1073741824 ≤ s.2.2.2.2.2.2.2 - st.2.2.2 ∧ s.2.2.2.2.2.2.2 - st.2.2.2 ≤ 1073741824 := by
  cases h1 : (vint B qs st.1).1 with
  | none => rw [rdS_1 h1] at h; cases h
  | some a =>
    cases h2 : (vint B qs (vint B qs st.1).2).1 with
    | none => rw [rdS_2 h2] at h; cases h
    | some nu =>
      cases h3 : (vint B qs (vint B qs (vint B qs st.1).2).2).1 with
      | none => rw [rdS_3 h3] at h; cases h
      | some z =>
        by_cases hn : a < L.length ∧ 1 ≤ z
        · rw [rdS_5 h1 h2 h3 hn] at h
          cases hP : rdP B L.length qp st.2.1 with
          | none => rw [hP] at h; cases h
          | some P =>
            rw [hP] at h
            cases hO : rdO B qo st.2.2.1 z st.2.2.2 with
            | none => rw [hO] at h; cases h
            | some O =>
              rw [hO] at h
              obtain ⟨k, i, e', p'⟩ := O
              have hb := rdO_b hB hO
              injection h with h
              injection h with h4 h5
              subst h4 h5
              exact hb
        · rw [rdS_4 h1 h2 h3 hn] at h; cases h
end RDLS
theorem tf_0 {P : Prop} [Decidable P] (h : tf P = 0) : ¬ P := fun z => by unfold tf at h; rw [if_pos z] at h; exact absurd h (by decide)
theorem tf_1 {P : Prop} [Decidable P] (h : ¬ tf P = 0) : P := Decidable.byContradiction (fun z => h (by unfold tf; rw [if_neg z]))
theorem nm1 {c : Nat} (h : c < 2147483648) : nI c - 1 = -1 ↔ c = 0 := by
  constructor
  · intro z
    cases c with
    | zero => rfl
    | succ c =>
      rw [show nI (c + 1) - 1 = nI c from pk_sub (a := c + 1) (b := 1) (Nat.succ_le_succ (Nat.zero_le _))] at z
      have h1 := nI_pos (n := c) (by omega)
      rw [z] at h1
      exact absurd (by decide) h1
  · intro z
    rw [z]; rfl
def CsL : List Nat := [912, 913, 914, 915, 916, 917, 918, 919]
def asX (r m ids : Nat) (cu : Nat → Nat) (L : List Nat) (qs qp qo : Nat) (S S1 : MM) (f T I : Nat) (st : RdT) : Prop := RW (CuS cu) CsL r S S1 ∧ RdM S1 r m ids cu L qs qp qo st ∧ T ≤ 8192 ∧ I ≤ T ∧ 8193 ≤ f + T ∧ f ≤ 8193 ∧ -(1073750016 * (8193 - (f : Int))) ≤ st.2.2.2 ∧ st.2.2.2 ≤ 1073750016 * (8193 - (f : Int))
def asQ (r : Nat) (cu : Nat → Nat) (L : List Nat) (qs qp qo ps pp po n : Nat) (B : List Nat) (S S' : MM) (v : Int32) : Prop := RW (CuS cu) CsL r S S' ∧ ((v = 1 ∧ ∃ A, rdAll B L qs qp qo ps pp po n = some A) ∨ (v = 0 ∧ rdAll B L qs qp qo ps pp po n = none))
def I_as9 (r m ids n : Nat) (cu : Nat → Nat) (L : List Nat) (qs qp qo ps pp po : Nat) (B : List Nat) (S : MM) (t : Nat) : KT := fun lo sk S1 cs sl => ∃ f T I st A, t = 3 * f ∧ rdL B L qs qp qo f T I st A = rdL B L qs qp qo 8193 0 0 (ps, pp, po, 0) [] ∧ asX r m ids cu L qs qp qo S S1 f T I st ∧ lo = [(2, .inl (nI T)), (3, .inl (nI I)), (1, .inl (nI n)), (0, .inr (.inr (some r)))] ∧ sk = [] ∧ cs = 0 ∧ sl = 0
def I_as59 (r m ids n : Nat) (cu : Nat → Nat) (L : List Nat) (qs qp qo ps pp po : Nat) (B : List Nat) (S : MM) (t : Nat) : KT := fun lo sk S1 cs sl => ∃ f T I st A s, t = 3 * f + 1 ∧ rdL B L qs qp qo f (T + s.2.2.1) (I + if s.2.2.2.2.2.2.1 = 0 then s.2.2.1 else 0) st A = rdL B L qs qp qo 8193 0 0 (ps, pp, po, 0) [] ∧ asX r m ids cu L qs qp qo S S1 f (T + s.2.2.1) (I + if s.2.2.2.2.2.2.1 = 0 then s.2.2.1 else 0) st ∧ SpM S1 r s ∧ s.2.2.2.2.2.2.1 < 3 ∧ lo = [(2, .inl (nI T)), (3, .inl (nI I)), (1, .inl (nI n)), (0, .inr (.inr (some r)))] ∧ sk = [] ∧ cs = 0 ∧ sl = 0
def I_as87 (r m ids n : Nat) (cu : Nat → Nat) (L : List Nat) (qs qp qo ps pp po : Nat) (B : List Nat) (S : MM) (t : Nat) : KT := fun lo sk S1 cs sl => ∃ f T I st A, t = 1 ∧ rdL B L qs qp qo 8193 0 0 (ps, pp, po, 0) [] = some (A, I, st) ∧ asX r m ids cu L qs qp qo S S1 f T I st ∧ lo = [(3, .inl (nI I)), (1, .inl (nI n)), (0, .inr (.inr (some r)))] ∧ sk = [] ∧ cs = 0 ∧ sl = 0
def T_ras : TR := fun Rc Rs av S cs sl K _Kx => match av with
  | [.inr (.inr r_o), .inl n_v] => pa r_o fun r => (∃ (n : Nat), n_v = nI n ∧ (∃ (F : Nat → Nat × Nat) (j pk : Nat) (cu : Nat → Nat) (ids fnd m d : Nat) (B L : List Nat) (qs qp qo ps pp po : Nat) (e : Int), (RD S F j r pk cu ids fnd ∧ By S m d B ∧ RdM S r m ids cu L qs qp qo (ps, pp, po, e) ∧ (∀ a ∈ L, a < 256) ∧ n < 2147483648) ∧ cs ≤ Rc ∧ sl ≤ Rs ∧ (∀ (v : Int32) (S' : MM), (asQ r cu L qs qp qo ps pp po n B S S' v) → K (some (.inl v)) S' cs sl)))
  | _ => False
def sp_ras (r : Nat) (n : Nat) (F : Nat → Nat × Nat) (j pk : Nat) (cu : Nat → Nat) (ids fnd m d : Nat) (B L : List Nat) (qs qp qo ps pp po : Nat) (e : Int) : Sp := (fun av S => av = [.inr (.inr (some r)), .inl (nI n)] ∧ (RD S F j r pk cu ids fnd ∧ By S m d B ∧ RdM S r m ids cu L qs qp qo (ps, pp, po, e) ∧ (∀ a ∈ L, a < 256) ∧ n < 2147483648), fun _ S => 0, fun _ S => 0, fun _ S rv S' => ∃ v, rv = (some (.inl v)) ∧ (asQ r cu L qs qp qo ps pp po n B S S' v), fun _ _ _ _ => False)
def tX8_areSpansSound : CD := [(0, .iconst 0), (1, .istore_n 2), (2, .iconst 0), (3, .istore_n 3), (4, .aload_n 0), (5, .lconst 0), (6, .putfield 76), (9, .iload_n 2), (10, .sipush 8192), (13, .if_icmp .ge 74), (16, .aload_n 0), (17, .getfield 21), (20, .invokevirtual 119), (23, .ifCond .ne 64), (26, .aload_n 0), (27, .invokevirtual 125), (30, .ifCond .eq 27), (33, .aload_n 0), (34, .getfield 60), (37, .sipush 8192), (40, .iload_n 2), (41, .isub), (42, .if_icmp .gt 15), (45, .iload_n 2), (46, .ifCond .ne 13), (49, .aload_n 0), (50, .getfield 63), (53, .iconst (-1)), (54, .if_icmp .ne 5), (57, .iconst 0), (58, .ireturn), (59, .iload_n 2), (60, .aload_n 0), (61, .getfield 60), (64, .iadd), (65, .istore_n 2), (66, .iload_n 3), (67, .aload_n 0), (68, .getfield 69), (71, .ifCond .ne 10), (74, .aload_n 0), (75, .getfield 60), (78, .goto 4), (81, .iconst 0), (82, .iadd), (83, .istore_n 3), (84, .goto (-75)), (87, .aload_n 0), (88, .getfield 21), (91, .invokevirtual 119), (94, .ifCond .eq 32), (97, .aload_n 0), (98, .getfield 24), (101, .invokevirtual 119), (104, .ifCond .eq 22), (107, .aload_n 0), (108, .getfield 27), (111, .invokevirtual 119), (114, .ifCond .eq 12), (117, .iload_n 3), (118, .iload_n 1), (119, .if_icmp .ne 7), (122, .iconst 1), (123, .goto 4), (126, .iconst 0), (127, .ireturn)]
set_option maxRecDepth 100000 in
theorem kX8_areSpansSound : chk cX8_areSpansSound tX8_areSpansSound = true := by decide +kernel
theorem vX8_areSpansSound_119 : ∀ w ∈ ([.methodLink RX8 119 yX2_isDone, .instanceMethod yX2_isDone, .selects yX2_isDone.cls yX2_isDone yX2_isDone, .initialized yX2_isDone.cls, .code yX2_isDone cX2_isDone 1 (some .boolean)] : List Cond), w ∈ lw_good := List.forall_mem_cons.mpr ⟨mgd 1507 (by decide +kernel) (by decide +kernel), List.forall_mem_cons.mpr ⟨mgd 1487 (by decide +kernel) (by decide +kernel), List.forall_mem_cons.mpr ⟨mgd 1488 (by decide +kernel) (by decide +kernel), List.forall_mem_cons.mpr ⟨mgd 131 (by decide +kernel) (by decide +kernel), List.forall_mem_cons.mpr ⟨mgd 1489 (by decide +kernel) (by decide +kernel), fun _ h => absurd h List.not_mem_nil⟩⟩⟩⟩⟩
theorem vX8_areSpansSound_125 : ∀ w ∈ ([.methodLink RX8 125 yX8_readSpan, .instanceMethod yX8_readSpan, .selects yX8_readSpan.cls yX8_readSpan yX8_readSpan, .initialized yX8_readSpan.cls, .code yX8_readSpan cX8_readSpan 2 (some .boolean)] : List Cond), w ∈ lw_good := List.forall_mem_cons.mpr ⟨mgd 1534 (by decide +kernel) (by decide +kernel), List.forall_mem_cons.mpr ⟨mgd 1536 (by decide +kernel) (by decide +kernel), List.forall_mem_cons.mpr ⟨mgd 42 (by decide +kernel) (by decide +kernel), List.forall_mem_cons.mpr ⟨mgd 134 (by decide +kernel) (by decide +kernel), List.forall_mem_cons.mpr ⟨mgd 1537 (by decide +kernel) (by decide +kernel), fun _ h => absurd h List.not_mem_nil⟩⟩⟩⟩⟩
set_option maxRecDepth 100000 in
set_option maxHeartbeats 2000000 in
theorem c_ras (l : Launch) : ∀ (r : Nat) (n : Nat) (F : Nat → Nat × Nat) (j pk : Nat) (cu : Nat → Nat) (ids fnd m d : Nat) (B L : List Nat) (qs qp qo ps pp po : Nat) (e : Int), Ct l yX8_areSpansSound cX8_areSpansSound 4 (some .boolean) 4 89 (sp_ras r n F j pk cu ids fnd m d B L qs qp qo ps pp po e) := by
  intro r n F j pk cu ids fnd m d B L qs qp qo ps pp po e
  refine Ct.of (fX8, nX8, aX8, iX8, lX8, [(119, 0, 1, 1, T_cdone), (125, 0, 1, 1, T_rsp)], qX8, gX8, []) false tX8_areSpansSound (fun _ S => look [(9, ([2,3,1,0], I_as9 r m ids n cu L qs qp qo ps pp po B S)), (59, ([2,3,1,0], I_as59 r m ids n cu L qs qp qo ps pp po B S)), (87, ([3,1,0], I_as87 r m ids n cu L qs qp qo ps pp po B S))]) (by decide) (by decide) kX8_areSpansSound ⟨_, _, rfl⟩ fX8_ok nX8_ok aX8_ok iX8_ok lX8_ok (fun p e R s m args below meth c Q D cy z r A C hR1 hR2 => List.forall_mem_cons.mpr ⟨cOK_use (fun _ _ _ _ _ _ _ _ h => let ⟨sp, h1, h2, h3⟩ := u_cdone l _ _ _ _ _ _ _ _ h; ⟨sp, cOK_V C h1 vX8_areSpansSound_119 ⟨by decide, by decide, by decide +kernel⟩ ⟨by rw [hR1]; decide, by rw [hR2]; decide⟩ (k := 3) (T := TX2) (N := 3) rfl (by decide) h2, h3⟩), List.forall_mem_cons.mpr ⟨cOK_use (fun _ _ _ _ _ _ _ _ h => let ⟨sp, h1, h2, h3⟩ := u_rsp l _ _ _ _ _ _ _ _ h; ⟨sp, cOK_V C h1 vX8_areSpansSound_125 ⟨by decide, by decide, by decide +kernel⟩ ⟨by rw [hR1]; decide, by rw [hR2]; decide⟩ (k := 9) (T := TX8) (N := 20) rfl (by decide) h2, h3⟩), fun _ h => absurd h List.not_mem_nil⟩⟩) qX8_ok gX8_ok rfl ?_ ?_
  · rintro _ S ⟨rfl, hp⟩
    refine ⟨Nat.le_of_ble_eq_true rfl, 300, ?_⟩
    show (True ∧ (isO S 9 r ∧ (∃ k1, I_as9 r m ids n cu L qs qp qo ps pp po B S k1 [(2, .inl (0 : Int32)), (3, .inl (0 : Int32)), (1, .inl (nI n)), (0, .inr (.inr (some r)))] [] (sJ S 919 r (0 : Int64)) 0 0)))
    obtain ⟨hR, hB, ⟨m1, m2, m3, m4, m5, m6, m7⟩, hA, hn⟩ := hp
    have kp : ∀ {a p q}, a < 6 → Cu S (cu a) m p q → Cu (sJ S 919 r 0) (cu a) m p q := fun ha hc => hc.keep (Keep.sJ (P := fun b => b = r) Keep.rf rfl) (fun e => hR.cr ha e.symm)
    refine ⟨trivial, hR.1, 3 * 8193, 8193, 0, 0, (ps, pp, po, 0), [], rfl, rfl, ⟨RW.rf.wJ (by decide), ⟨kp (by decide) m1, kp (by decide) m2, kp (by decide) m3, m4, m5, m6, ?_⟩, Nat.zero_le _, Nat.le_refl _, Nat.le_refl _, Nat.le_refl _, (by decide : -(1073750016 * (8193 - ((8193 : Nat) : Int))) ≤ (0 : Int)), (by decide : (0 : Int) ≤ 1073750016 * (8193 - ((8193 : Nat) : Int)))⟩, rfl, rfl, rfl, rfl⟩
    rw [mJ_sJ, if_pos ⟨rfl, rfl⟩]; rfl
  · intro av S hpre pc I hI k lo st S1 cs sl h
    obtain ⟨rfl, hp⟩ := hpre
    have hm := look_in hI
    simp only [List.mem_cons, List.not_mem_nil, or_false] at hm
    rcases hm with hm | hm | hm
    · cases hm
      obtain ⟨f, T, I, st, A, rfl, hL, hX, rfl, rfl, rfl, rfl⟩ := h
      obtain ⟨hR, hB, hM0, hA, hn⟩ := hp
      obtain ⟨x1, hM, x3, x4, x5, x6, x7, x8⟩ := hX
      have hR1 := x1.rd hR (by decide)
      have hCS : ∀ b, CuS cu b → ∃ k, k < 6 ∧ b = cu k := fun b w => w.elim (fun e => ⟨2, by decide, e⟩) (fun w => w.elim (fun e => ⟨3, by decide, e⟩) (fun e => ⟨4, by decide, e⟩))
      have hB1 : By S1 m d B := x1.byc hR hB hCS
      have no : ∀ S2, RW (CuS cu) CsL r S S2 → rdAll B L qs qp qo ps pp po n = none → mret (some .boolean) (sp_ras r n F j pk cu ids fnd m d B L qs qp qo ps pp po e) [.inr (.inr (some r)), .inl (nI n)] S (some (.inl 0)) S2 0 0 := fun S2 h w => ⟨Or.inl rfl, ⟨0, rfl, h, Or.inr ⟨rfl, w⟩⟩, Nat.le_refl _, Nat.le_refl _⟩
      refine ⟨300, ?_⟩
      show (((8192 : Int32) ≤ (nI T) → (∃ k1, k1 < 3 * f ∧ I_as87 r m ids n cu L qs qp qo ps pp po B S k1 [(3, .inl (nI I)), (1, .inl (nI n)), (0, .inr (.inr (some r)))] [] S1 0 0)) ∧ (¬ (8192 : Int32) ≤ (nI T) → (isO S1 9 r ∧ (0 = 0 ∧ ((pa (mR S1 903 r) fun a_1 => (∃ (s_2 p_3 q_4 : Nat), (Cu S1 a_1 s_2 p_3 q_4) ∧ 0 ≤ 0 ∧ 0 ≤ 0 ∧ (((¬ (tf (q_4 ≤ p_3)) = 0 → (∃ k1, k1 < 3 * f ∧ I_as87 r m ids n cu L qs qp qo ps pp po B S k1 [(3, .inl (nI I)), (1, .inl (nI n)), (0, .inr (.inr (some r)))] [] S1 0 0)) ∧ ((tf (q_4 ≤ p_3)) = 0 → (0 = 0 ∧ (∃ (F_6 : Nat → Nat × Nat) (j_7 pk_8 : Nat) (cu_9 : Nat → Nat) (ids_10 fnd_11 m_12 d_13 : Nat) (B_14 L_15 : List Nat) (qs_16 qp_17 qo_18 : Nat) (st_19 : RdT), (RD S1 F_6 j_7 r pk_8 cu_9 ids_10 fnd_11 ∧ By S1 m_12 d_13 B_14 ∧ RdM S1 r m_12 ids_10 cu_9 L_15 qs_16 qp_17 qo_18 st_19 ∧ (∀ a ∈ L_15, a < 256) ∧ -1000000000000000 ≤ st_19.2.2.2 ∧ st_19.2.2.2 ≤ 1000000000000000) ∧ 0 ≤ 0 ∧ 0 ≤ 0 ∧ (∀ (x_21 : Int32) (S_20 : MM), (rsQ r m_12 ids_10 cu_9 L_15 qs_16 qp_17 qo_18 st_19 B_14 S1 S_20 x_21) → ((x_21 = 0 → (([] : List MV) = [] ∧ mret (some .boolean) (sp_ras r n F j pk cu ids fnd m d B L qs qp qo ps pp po e) [.inr (.inr (some r)), .inl (nI n)] S (some (.inl (0 : Int32))) S_20 0 0)) ∧ (¬ x_21 = 0 → (isO S_20 9 r ∧ ((((8192 : Int32) - (nI T)) < (mI S_20 914 r) → (([] : List MV) = [] ∧ mret (some .boolean) (sp_ras r n F j pk cu ids fnd m d B L qs qp qo ps pp po e) [.inr (.inr (some r)), .inl (nI n)] S (some (.inl (0 : Int32))) S_20 0 0)) ∧ (¬ ((8192 : Int32) - (nI T)) < (mI S_20 914 r) → ((¬ (nI T) = 0 → (∃ k1, k1 < 3 * f ∧ I_as59 r m ids n cu L qs qp qo ps pp po B S k1 [(2, .inl (nI T)), (3, .inl (nI I)), (1, .inl (nI n)), (0, .inr (.inr (some r)))] [] S_20 0 0)) ∧ ((nI T) = 0 → (isO S_20 9 r ∧ ((¬ (mI S_20 915 r) = (-1 : Int32) → (∃ k1, k1 < 3 * f ∧ I_as59 r m ids n cu L qs qp qo ps pp po B S k1 [(2, .inl (nI T)), (3, .inl (nI I)), (1, .inl (nI n)), (0, .inr (.inr (some r)))] [] S_20 0 0)) ∧ ((mI S_20 915 r) = (-1 : Int32) → (([] : List MV) = [] ∧ mret (some .boolean) (sp_ras r n F j pk cu ids fnd m d B L qs qp qo ps pp po e) [.inr (.inr (some r)), .inl (nI n)] S (some (.inl (0 : Int32))) S_20 0 0))))))))))))))))))))))))
      obtain ⟨f, rfl⟩ : ∃ f', f = f' + 1 := ⟨f - 1, by omega⟩
      have nl : ∀ x, rdL B L qs qp qo (f + 1) T I st A = x → x = none → rdAll B L qs qp qo ps pp po n = none := fun x h1 h2 => by
        unfold rdAll
        rw [← hL, h1, h2]; rfl
      have go87 : ¬ (T < 8192 ∧ st.1 < qs) → ∃ k1, k1 < 3 * (f + 1) ∧ I_as87 r m ids n cu L qs qp qo ps pp po B S k1 [(3, .inl (nI I)), (1, .inl (nI n)), (0, .inr (.inr (some r)))] [] S1 0 0 := fun h => ⟨1, by omega, f + 1, T, I, st, A, rfl, hL.symm.trans (rdL_1 h), ⟨x1, hM, x3, x4, x5, x6, x7, x8⟩, rfl, rfl, rfl, rfl⟩
      refine if_le (a := 8192) (by decide) (by omega) (fun h8 => go87 (fun w => by omega)) (fun h8 => ⟨hR1.1, rfl, pa_i (hR1.2.2.2.1 2 (by decide)).1 ⟨m, st.1, qs, hM.1, Nat.le_refl _, Nat.le_refl _, fun h7 => go87 (fun w => by have := tf_1 h7; omega), fun h7 => ?_⟩⟩)
      have h7 := tf_0 h7
      have hc : T < 8192 ∧ st.1 < qs := ⟨h8, by omega⟩
      refine ⟨rfl, F, j, pk, cu, ids, fnd, m, d, B, L, qs, qp, qo, st, ⟨hR1, hB1, hM, hA, by omega, by omega⟩, Nat.le_refl _, Nat.le_refl _, fun v S2 hq => ?_⟩
      obtain ⟨g1, g2⟩ := hq
      have y1 := x1.tr g1
      have hR2 := y1.rd hR (by decide)
      rcases g2 with ⟨e1, s, st', g3, g4, g5, g6, g7, g8, g9, g10, g11⟩ | ⟨e1, g3⟩
      · refine ⟨fun w => absurd (e1.symm.trans w) (by decide), fun _ => ⟨hR2.1, ?_⟩⟩
        rw [g10.2.2.1, g10.2.2.2.1, show (8192 : Int32) - nI T = nI (8192 - T) from pk_sub (a := 8192) (by omega)]
        have sb := rdS_b hB.bytesLt g3
        refine if_lt (by omega) g8 (fun h6 => ⟨rfl, no S2 y1 (nl _ (rdL_3 hc g3 (fun w => by omega)) rfl)⟩) (fun h6 => ?_)
        have go59 : ¬ (T = 0 ∧ s.2.2.2.1 = 0) → ∃ k1, k1 < 3 * (f + 1) ∧ I_as59 r m ids n cu L qs qp qo ps pp po B S k1 [(2, .inl (nI T)), (3, .inl (nI I)), (1, .inl (nI n)), (0, .inr (.inr (some r)))] [] S2 0 0 := by
          intro hz
          refine ⟨3 * f + 1, by omega, f, T, I, st', A ++ [s], s, rfl, (rdL_4 hc g3 ⟨by omega, hz⟩).symm.trans hL, ⟨y1, g11, by omega, ?_, by omega, by omega, ?_, ?_⟩, g10, g4, rfl, rfl, rfl, rfl⟩
          · split <;> omega
          · rw [sb.1]
            rcases opS_b s.2.2.2.2.2.2.1 with w | w | w <;> rw [w] <;> omega
          · rw [sb.1]
            rcases opS_b s.2.2.2.2.2.2.1 with w | w | w <;> rw [w] <;> omega
        refine ⟨fun h5 => go59 (fun w => h5 (by rw [w.1]; rfl)), fun h5 => ⟨hR2.1, fun h4 => go59 (fun w => h4 ((nm1 g9).2 w.2)), fun h4 => ⟨rfl, no S2 y1 (nl _ (rdL_3 hc g3 (fun w => w.2 ⟨?_, (nm1 g9).1 h4⟩)) rfl)⟩⟩⟩
        exact (nI_eq (b := 0) (by omega) (by decide)).1 h5
      · exact ⟨fun _ => ⟨rfl, no S2 y1 (nl _ (rdL_2 hc g3) rfl)⟩, fun w => absurd e1 w⟩
    · cases hm
      obtain ⟨f, T, I, st, A, s, rfl, hL, hX, hs, hk3, rfl, rfl, rfl, rfl⟩ := h
      obtain ⟨hR, hB, hM0, hA, hn⟩ := hp
      obtain ⟨x1, hM, x3, x4, x5, x6, x7, x8⟩ := hX
      have hR1 := x1.rd hR (by decide)
      have hCS : ∀ b, CuS cu b → ∃ k, k < 6 ∧ b = cu k := fun b w => w.elim (fun e => ⟨2, by decide, e⟩) (fun w => w.elim (fun e => ⟨3, by decide, e⟩) (fun e => ⟨4, by decide, e⟩))
      have hB1 : By S1 m d B := x1.byc hR hB hCS
      have no : ∀ S2, RW (CuS cu) CsL r S S2 → rdAll B L qs qp qo ps pp po n = none → mret (some .boolean) (sp_ras r n F j pk cu ids fnd m d B L qs qp qo ps pp po e) [.inr (.inr (some r)), .inl (nI n)] S (some (.inl 0)) S2 0 0 := fun S2 h w => ⟨Or.inl rfl, ⟨0, rfl, h, Or.inr ⟨rfl, w⟩⟩, Nat.le_refl _, Nat.le_refl _⟩
      refine ⟨300, ?_⟩
      show (isO S1 9 r ∧ (isO S1 9 r ∧ ((¬ (mI S1 917 r) = 0 → (∃ k1, k1 < 3 * f + 1 ∧ I_as9 r m ids n cu L qs qp qo ps pp po B S k1 [(2, .inl ((nI T) + (mI S1 914 r))), (3, .inl ((nI I) + (0 : Int32))), (1, .inl (nI n)), (0, .inr (.inr (some r)))] [] S1 0 0)) ∧ ((mI S1 917 r) = 0 → (isO S1 9 r ∧ (∃ k1, k1 < 3 * f + 1 ∧ I_as9 r m ids n cu L qs qp qo ps pp po B S k1 [(2, .inl ((nI T) + (mI S1 914 r))), (3, .inl ((nI I) + (mI S1 914 r))), (1, .inl (nI n)), (0, .inr (.inr (some r)))] [] S1 0 0))))))
      rw [hs.2.2.1, hs.2.2.2.2.2.1]
      refine ⟨hR1.1, hR1.1, fun h8 => ?_, fun h8 => ⟨hR1.1, ?_⟩⟩
      · have hk : s.2.2.2.2.2.2.1 ≠ 0 := fun w => h8 (by rw [w]; rfl)
        rw [if_neg hk] at hL x4
        exact ⟨3 * f, Nat.lt_succ_self _, f, T + s.2.2.1, I + 0, st, A, rfl, hL, ⟨x1, hM, x3, x4, x5, x6, x7, x8⟩, by rw [nI_add, Int32.add_zero]; rfl, rfl, rfl, rfl⟩
      · have hk : s.2.2.2.2.2.2.1 = 0 := (nI_eq (b := 0) (by omega) (by decide)).1 h8
        rw [if_pos hk] at hL x4
        exact ⟨3 * f, Nat.lt_succ_self _, f, T + s.2.2.1, I + s.2.2.1, st, A, rfl, hL, ⟨x1, hM, x3, x4, x5, x6, x7, x8⟩, by rw [nI_add, nI_add], rfl, rfl, rfl⟩
    · cases hm
      obtain ⟨f, T, I, st, A, rfl, hL, hX, rfl, rfl, rfl, rfl⟩ := h
      obtain ⟨hR, hB, hM0, hA, hn⟩ := hp
      obtain ⟨x1, hM, x3, x4, x5, x6, x7, x8⟩ := hX
      have hR1 := x1.rd hR (by decide)
      have hCS : ∀ b, CuS cu b → ∃ k, k < 6 ∧ b = cu k := fun b w => w.elim (fun e => ⟨2, by decide, e⟩) (fun w => w.elim (fun e => ⟨3, by decide, e⟩) (fun e => ⟨4, by decide, e⟩))
      have hB1 : By S1 m d B := x1.byc hR hB hCS
      have no : ∀ S2, RW (CuS cu) CsL r S S2 → rdAll B L qs qp qo ps pp po n = none → mret (some .boolean) (sp_ras r n F j pk cu ids fnd m d B L qs qp qo ps pp po e) [.inr (.inr (some r)), .inl (nI n)] S (some (.inl 0)) S2 0 0 := fun S2 h w => ⟨Or.inl rfl, ⟨0, rfl, h, Or.inr ⟨rfl, w⟩⟩, Nat.le_refl _, Nat.le_refl _⟩
      refine ⟨300, ?_⟩
      show (isO S1 9 r ∧ (0 = 0 ∧ ((pa (mR S1 903 r) fun a_1 => (∃ (s_2 p_3 q_4 : Nat), (Cu S1 a_1 s_2 p_3 q_4) ∧ 0 ≤ 0 ∧ 0 ≤ 0 ∧ ((((tf (q_4 ≤ p_3)) = 0 → (([] : List MV) = [] ∧ mret (some .boolean) (sp_ras r n F j pk cu ids fnd m d B L qs qp qo ps pp po e) [.inr (.inr (some r)), .inl (nI n)] S (some (.inl (0 : Int32))) S1 0 0)) ∧ (¬ (tf (q_4 ≤ p_3)) = 0 → (isO S1 9 r ∧ (0 = 0 ∧ ((pa (mR S1 904 r) fun a_6 => (∃ (s_7 p_8 q_9 : Nat), (Cu S1 a_6 s_7 p_8 q_9) ∧ 0 ≤ 0 ∧ 0 ≤ 0 ∧ ((((tf (q_9 ≤ p_8)) = 0 → (([] : List MV) = [] ∧ mret (some .boolean) (sp_ras r n F j pk cu ids fnd m d B L qs qp qo ps pp po e) [.inr (.inr (some r)), .inl (nI n)] S (some (.inl (0 : Int32))) S1 0 0)) ∧ (¬ (tf (q_9 ≤ p_8)) = 0 → (isO S1 9 r ∧ (0 = 0 ∧ ((pa (mR S1 905 r) fun a_11 => (∃ (s_12 p_13 q_14 : Nat), (Cu S1 a_11 s_12 p_13 q_14) ∧ 0 ≤ 0 ∧ 0 ≤ 0 ∧ ((((tf (q_14 ≤ p_13)) = 0 → (([] : List MV) = [] ∧ mret (some .boolean) (sp_ras r n F j pk cu ids fnd m d B L qs qp qo ps pp po e) [.inr (.inr (some r)), .inl (nI n)] S (some (.inl (0 : Int32))) S1 0 0)) ∧ (¬ (tf (q_14 ≤ p_13)) = 0 → ((¬ (nI I) = (nI n) → (([] : List MV) = [] ∧ mret (some .boolean) (sp_ras r n F j pk cu ids fnd m d B L qs qp qo ps pp po e) [.inr (.inr (some r)), .inl (nI n)] S (some (.inl (0 : Int32))) S1 0 0)) ∧ ((nI I) = (nI n) → (([] : List MV) = [] ∧ mret (some .boolean) (sp_ras r n F j pk cu ids fnd m d B L qs qp qo ps pp po e) [.inr (.inr (some r)), .inl (nI n)] S (some (.inl (1 : Int32))) S1 0 0)))))))))))))))))))))))))))
      have ra : ∀ h : Prop, (h ↔ (qs ≤ st.1 ∧ qp ≤ st.2.1 ∧ qo ≤ st.2.2.1 ∧ I = n)) → (¬ h → rdAll B L qs qp qo ps pp po n = none) ∧ (h → rdAll B L qs qp qo ps pp po n = some A) := fun h hi => by
        unfold rdAll
        rw [hL]
        exact ⟨fun w => if_neg (fun z => w (hi.2 z)), fun w => if_pos (hi.1 w)⟩
      have r9 := ra _ Iff.rfl
      refine ⟨hR1.1, rfl, pa_i (hR1.2.2.2.1 2 (by decide)).1 ⟨m, st.1, qs, hM.1, Nat.le_refl _, Nat.le_refl _, fun h1 => ⟨rfl, no S1 x1 (r9.1 (fun w => tf_0 h1 w.1))⟩, fun h1 => ⟨hR1.1, rfl, pa_i (hR1.2.2.2.1 3 (by decide)).1 ⟨m, st.2.1, qp, hM.2.1, Nat.le_refl _, Nat.le_refl _, fun h2 => ⟨rfl, no S1 x1 (r9.1 (fun w => tf_0 h2 w.2.1))⟩, fun h2 => ⟨hR1.1, rfl, pa_i (hR1.2.2.2.1 4 (by decide)).1 ⟨m, st.2.2.1, qo, hM.2.2.1, Nat.le_refl _, Nat.le_refl _, fun h3 => ⟨rfl, no S1 x1 (r9.1 (fun w => tf_0 h3 w.2.2.1))⟩, fun h3 => if_ne (by omega) hn (fun h4 => ⟨rfl, no S1 x1 (r9.1 (fun w => h4 w.2.2.2))⟩) (fun h4 => ⟨rfl, Or.inr rfl, ⟨1, rfl, x1, Or.inl ⟨rfl, A, r9.2 ⟨tf_1 h1, tf_1 h2, tf_1 h3, h4⟩⟩⟩, Nat.le_refl _, Nat.le_refl _⟩)⟩⟩⟩⟩⟩⟩
theorem u_ras (l : Launch) : Us l yX8_areSpansSound cX8_areSpansSound 4 (some .boolean) 4 89 9 T_ras := by
  intro Rc Rs av S cs sl K Kx h
  unfold T_ras at h
  split at h
  · rename_i r_o n_v
    obtain ⟨r, rfl, h_1⟩ := pa_of h
    obtain ⟨n, rfl, h_2⟩ := h_1
    obtain ⟨F, j, pk, cu, ids, fnd, m, d, B, L, qs, qp, qo, ps, pp, po, e, hp, hc, hs, hk⟩ := h_2
    refine ⟨(sp_ras r n F j pk cu ids fnd m d B L qs qp qo ps pp po e), c_ras l r n F j pk cu ids fnd m d B L qs qp qo ps pp po e, fun _ _ h9 => ⟨_, _, h9.1, h9.2.1.1⟩, ⟨rfl, hp⟩, hc, hs, fun v9 S' h8 => by
      obtain ⟨v8, h7, h8⟩ := h8
      cases h7
      exact hk _ _ h8, fun _ _ q => q.elim⟩
  · exact h.elim
