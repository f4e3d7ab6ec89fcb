/-! ===== The reference's smallest ===== -/
def T_rin : TR := fun Rc Rs av S cs sl K _Kx => match av with
  | [.inl v, .inl lo9, .inl hi9] => True ∧ cs ≤ Rc ∧ sl ≤ Rs ∧ (K (some (.inl (tf (lo9 ≤ v ∧ v ≤ hi9)))) S cs sl)
  | _ => False
def sp_rin (v : Int32) (lo9 : Int32) (hi9 : Int32)  : Sp := (fun av S => av = [.inl v, .inl lo9, .inl hi9] ∧ True, fun _ S => 0, fun _ S => 0, fun _ S rv S' => rv = (some (.inl (tf (lo9 ≤ v ∧ v ≤ hi9)))) ∧ S' = S, fun _ _ _ _ => False)
def tX14_in : CD := [(0, .iload_n 0), (1, .iload_n 1), (2, .if_icmp .lt 12), (5, .iload_n 0), (6, .iload_n 2), (7, .if_icmp .gt 7), (10, .iconst 1), (11, .goto 4), (14, .iconst 0), (15, .ireturn)]
set_option maxRecDepth 100000 in
theorem kX14_in : chk cX14_in tX14_in = true := by decide +kernel

set_option maxRecDepth 100000 in
set_option maxHeartbeats 2000000 in
theorem c_rin (l : Launch) : ∀ (v : Int32) (lo9 : Int32) (hi9 : Int32), Ct l yX14_in cX14_in 3 (some .boolean) 0 0 (sp_rin v lo9 hi9) := by
  intro v lo9 hi9
  refine Ct.of (fX14, nX14, aX14, iX14, lX14, [], qX14, gX14, []) false tX14_in (fun _ _ _ => none) (by decide) (by decide) kX14_in ⟨_, _, rfl⟩ fX14_ok nX14_ok aX14_ok iX14_ok lX14_ok (fun _ _ _ _ _ _ _ _ _ _ _ _ _ _ _ _ _ _ => no_all) qX14_ok gX14_ok rfl ?_ ?_
  · rintro _ S ⟨rfl, hp⟩
    refine ⟨Nat.le_of_ble_eq_true rfl, 300, ?_⟩
    show ((v < lo9 → (([] : List MV) = [] ∧ mret (some .boolean) (sp_rin v lo9 hi9) [.inl v, .inl lo9, .inl hi9] S (some (.inl (0 : Int32))) S 0 0)) ∧ (¬ v < lo9 → ((hi9 < v → (([] : List MV) = [] ∧ mret (some .boolean) (sp_rin v lo9 hi9) [.inl v, .inl lo9, .inl hi9] S (some (.inl (0 : Int32))) S 0 0)) ∧ (¬ hi9 < v → (([] : List MV) = [] ∧ mret (some .boolean) (sp_rin v lo9 hi9) [.inl v, .inl lo9, .inl hi9] S (some (.inl (1 : Int32))) S 0 0)))))
    refine ⟨fun z => ⟨rfl, Or.inl rfl, ⟨?_, rfl⟩, Nat.le_refl _, Nat.le_refl _⟩, fun z => ⟨fun w => ⟨rfl, Or.inl rfl, ⟨?_, rfl⟩, Nat.le_refl _, Nat.le_refl _⟩, fun w => ⟨rfl, Or.inr rfl, ⟨?_, rfl⟩, Nat.le_refl _, Nat.le_refl _⟩⟩⟩
    · rw [tf_f (show ¬ (lo9 ≤ v ∧ v ≤ hi9) from fun u => Int32.lt_irrefl (Int32.lt_of_lt_of_le z u.1))]
    · rw [tf_f (show ¬ (lo9 ≤ v ∧ v ≤ hi9) from fun u => Int32.lt_irrefl (Int32.lt_of_lt_of_le w u.2))]
    · rw [tf_t ⟨Int32.not_lt.1 z, Int32.not_lt.1 w⟩]
  · exact fun _ _ _ _ _ h => by cases h
theorem u_rin (l : Launch) : Us l yX14_in cX14_in 3 (some .boolean) 0 0 99 T_rin := by
  intro Rc Rs av S cs sl K Kx h
  unfold T_rin at h
  split at h
  · rename_i v lo9 hi9
    obtain ⟨hp, hc, hs, hk⟩ := h
    refine ⟨(sp_rin v lo9 hi9), c_rin l v lo9 hi9, fun _ _ _ => trivial, ⟨rfl, hp⟩, hc, hs, fun v9 S' h8 => by
      obtain ⟨h7, h8⟩ := h8
      cases h7
      subst h8
      exact hk, fun _ _ q => q.elim⟩
  · exact h.elim
