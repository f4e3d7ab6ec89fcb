/-! ===== The reference: agentOf ===== -/
/-- a number read, -1 for none -/
def oJ : Option Nat → Int64
  | none => -1
  | some n => lN n
def agV (L : List Nat) : Option Nat → Int32
  | none => -1
  | some n => if n < L.length then nI (L.getD n 0) else -1
theorem lgl {a b : Nat} (ha : a < 9223372036854775807) (hb : b < 9223372036854775807) : lg_cmp (lN a) (lN b) < 0 ↔ a < b := (lg_cmp_lt _ _).trans (lNk ha hb).1
def T_rago : TR := fun Rc Rs av S cs sl K _Kx => match av with
  | [.inr (.inr t_o), .inr (.inl v9)] => pa t_o fun t => (∃ (F : Nat → Nat × Nat) (z : Nat → Nat) (Y : Nat → Nat → Nat) (R : Rb) (kz : Nat → Nat) (L : List Nat) (o : Option Nat), (MD S F t z Y R kz ∧ lsP S t z L ∧ L.length ≤ 256 ∧ v9 = oJ o ∧ ∀ n, o = some n → n < 2147483648) ∧ cs ≤ Rc ∧ sl ≤ Rs ∧ (K (some (.inl (agV L o))) S cs sl))
  | _ => False
def sp_rago (t : Nat) (v9 : Int64) (F : Nat → Nat × Nat) (z : Nat → Nat) (Y : Nat → Nat → Nat) (R : Rb) (kz : Nat → Nat) (L : List Nat) (o : Option Nat) : Sp := (fun av S => av = [.inr (.inr (some t)), .inr (.inl v9)] ∧ (MD S F t z Y R kz ∧ lsP S t z L ∧ L.length ≤ 256 ∧ v9 = oJ o ∧ ∀ n, o = some n → n < 2147483648), fun _ S => 0, fun _ S => 0, fun _ S rv S' => rv = (some (.inl (agV L o))) ∧ S' = S, fun _ _ _ _ => False)
def tX14_agentOf : CD := [(0, .lload_n 1), (1, .lconst 0), (2, .lcmp), (3, .ifCond .lt 13), (6, .lload_n 1), (7, .aload_n 0), (8, .getfield 332), (11, .i2l), (12, .lcmp), (13, .ifCond .lt 7), (16, .iconst (-1)), (17, .goto 10), (20, .aload_n 0), (21, .getfield 94), (24, .lload_n 1), (25, .l2i), (26, .iaload), (27, .ireturn)]
set_option maxRecDepth 100000 in
theorem kX14_agentOf : chk cX14_agentOf tX14_agentOf = true := by decide +kernel

set_option maxRecDepth 100000 in
set_option maxHeartbeats 2000000 in
theorem c_rago (l : Launch) : ∀ (t : Nat) (v9 : Int64) (F : Nat → Nat × Nat) (z : Nat → Nat) (Y : Nat → Nat → Nat) (R : Rb) (kz : Nat → Nat) (L : List Nat) (o : Option Nat), Ct l yX14_agentOf cX14_agentOf 3 (some .int) 0 0 (sp_rago t v9 F z Y R kz L o) := by
  intro t v9 F z Y R kz L o
  refine Ct.of (fX14, nX14, aX14, iX14, lX14, [], qX14, gX14, []) false tX14_agentOf (fun _ _ _ => none) (by decide) (by decide) kX14_agentOf ⟨_, _, rfl⟩ fX14_ok nX14_ok aX14_ok iX14_ok lX14_ok (fun _ _ _ _ _ _ _ _ _ _ _ _ _ _ _ _ _ _ => no_all) qX14_ok gX14_ok rfl ?_ ?_
  · rintro _ S ⟨rfl, hp⟩
    refine ⟨Nat.le_of_ble_eq_true rfl, 300, ?_⟩
    show (((lg_cmp v9 (0 : Int64)) < 0 → (([] : List MV) = [] ∧ mret (some .int) (sp_rago t v9 F z Y R kz L o) [.inr (.inr (some t)), .inr (.inl v9)] S (some (.inl (-1 : Int32))) S 0 0)) ∧ (¬ (lg_cmp v9 (0 : Int64)) < 0 → (isO S 15 t ∧ (((lg_cmp v9 ((mI S 1532 t).toInt64)) < 0 → (isO S 15 t ∧ (pa (mR S 1531 t) fun a_1 => ∃ v_2 : Int32, (isO S 17 a_1 ∧ inR S a_1 v9.toInt32 ∧ v_2 = eI S a_1 v9.toInt32.toNatClampNeg ∨ a_1 = (mQ S).1 ∧ vp_in v9.toInt32 16 ∧ v_2 = mRem v9.toInt32.toNatClampNeg) ∧ (([] : List MV) = [] ∧ mret (some .int) (sp_rago t v9 F z Y R kz L o) [.inr (.inr (some t)), .inr (.inl v9)] S (some (.inl v_2)) S 0 0)))) ∧ (¬ (lg_cmp v9 ((mI S 1532 t).toInt64)) < 0 → (([] : List MV) = [] ∧ mret (some .int) (sp_rago t v9 F z Y R kz L o) [.inr (.inr (some t)), .inr (.inl v9)] S (some (.inl (-1 : Int32))) S 0 0))))))
    obtain ⟨h, ⟨l1, l2, l3, l4⟩, hl, rfl, hn⟩ := hp
    have r31 := h 1 31 (by decide)
    rw [l1, nI_l (by omega)]
    cases o with
    | none => exact ⟨fun _ => ⟨rfl, trivial, ⟨rfl, rfl⟩, Nat.le_refl _, Nat.le_refl _⟩, fun w => absurd ((lg_cmp_lt _ _).2 (by decide : (-1 : Int64) < 0)) w⟩
    | some n =>
      have hn := hn n rfl
      refine ⟨fun w => absurd ((lgl (a := n) (b := 0) (by omega) (by decide)).1 w) (Nat.not_lt_zero n), fun _ => ⟨(h 0).1, fun w => ?_, fun w => ?_⟩⟩
      · have hnl : n < L.length := (lgl (by omega) (by omega)).1 w
        have e32 : (oJ (some n)).toInt32 = nI n := lN_32 hn
        have ev : agV L (some n) = nI (L.getD n 0) := if_pos hnl
        rw [e32]
        exact ⟨(h 0).1, rdI (v := nI (L.getD n 0)) r31.1 r31.2.2.1 (inRn (N := 256) r31.2.2.2 (by omega) (by decide)) (by rw [nI_clamp (by omega)]; exact l2 n hnl) ⟨rfl, trivial, ⟨by rw [ev], rfl⟩, Nat.le_refl _, Nat.le_refl _⟩⟩
      · have ev : agV L (some n) = -1 := if_neg (fun q => w ((lgl (by omega) (by omega)).2 q))
        exact ⟨rfl, trivial, ⟨by rw [ev], rfl⟩, Nat.le_refl _, Nat.le_refl _⟩
  · exact fun _ _ _ _ _ h => by cases h
theorem u_rago (l : Launch) : Us l yX14_agentOf cX14_agentOf 3 (some .int) 0 0 15 T_rago := by
  intro Rc Rs av S cs sl K Kx h
  unfold T_rago at h
  split at h
  · rename_i t_o v9
    obtain ⟨t, rfl, h_1⟩ := pa_of h
    obtain ⟨F, z, Y, R, kz, L, o, hp, hc, hs, hk⟩ := h_1
    refine ⟨(sp_rago t v9 F z Y R kz L o), c_rago l t v9 F z Y R kz L o, fun _ _ h9 => ⟨_, _, h9.1, (h9.2.1 0).1⟩, ⟨rfl, hp⟩, hc, hs, fun v9 S' h8 => by
      obtain ⟨h7, h8⟩ := h8
      cases h7
      subst h8
      exact hk, fun _ _ q => q.elim⟩
  · exact h.elim
