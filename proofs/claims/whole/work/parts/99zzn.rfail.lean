/-! ===== The reference: fail ===== -/
def T_rfal : TR := fun Rc Rs av S cs sl K Kx => match av with
  | [.inl f_v] => ∃ (f : Nat), f_v = nI f ∧ ((f < 8) ∧ cs + 1 ≤ Rc ∧ sl + 6 ≤ Rs ∧ ((∀ (S' : MM), False → K none S' (cs + 1) (sl + 6)) ∧ ((f ≤ 4) → Kx 1 S (cs + 1) (sl + 6)) ∧ ((f = 5) → Kx 2 S (cs + 1) (sl + 6)) ∧ ((f = 6) → Kx 3 S (cs + 1) (sl + 6)) ∧ ((f = 7) → Kx 0 S (cs + 1) (sl + 6))))
  | _ => False
def sp_rfal (f : Nat)  : Sp := (fun av S => av = [.inl (nI f)] ∧ (f < 8), fun _ S => 1, fun _ S => 6, fun _ S rv S' => rv = none ∧ False, fun _ S E S' => (E = 1 ∧ (f ≤ 4) ∧ S' = S) ∨ (E = 2 ∧ (f = 5) ∧ S' = S) ∨ (E = 3 ∧ (f = 6) ∧ S' = S) ∨ (E = 0 ∧ (f = 7) ∧ S' = S))
def tX14_fail : CD := [(0, .iload_n 0), (1, .iconst 4), (2, .if_icmp .gt 11), (5, .new 138), (8, .dup), (9, .invokespecial 140), (12, .athrow), (13, .iload_n 0), (14, .iconst 5), (15, .if_icmp .ne 11), (18, .new 141), (21, .dup), (22, .invokespecial 143), (25, .athrow), (26, .iload_n 0), (27, .bipush 6), (29, .if_icmp .ne 11), (32, .new 170), (35, .dup), (36, .invokespecial 172), (39, .athrow), (40, .new 156), (43, .dup), (44, .invokespecial 158), (47, .athrow)]
set_option maxRecDepth 100000 in
theorem kX14_fail : chk cX14_fail tX14_fail = true := by decide +kernel

set_option maxRecDepth 100000 in
set_option maxHeartbeats 2000000 in
theorem c_rfal (l : Launch) (hlt : l.stackTraces = false) : ∀ (f : Nat), CtX l yX14_fail (Cond.code yX14_fail cX14_fail 1 none) none 6 89 (sp_rfal f) := by
  intro f
  refine CtX.of hlt (fX14, nX14, aX14, iX14, lX14, [], qX14, gX14, thX14) false tX14_fail (fun _ _ _ => none) (by decide) (by decide) kX14_fail ⟨_, _, rfl⟩ fX14_ok nX14_ok aX14_ok iX14_ok lX14_ok (fun _ _ _ _ _ _ _ _ _ _ _ _ _ _ _ _ _ _ => no_all) qX14_ok gX14_ok (fun q hq => ⟨thX14_ok q hq, by decide, by decide⟩) ?_ ?_
  · rintro _ S ⟨rfl, hp⟩
    refine ⟨Nat.le_of_ble_eq_true rfl, 300, ?_⟩
    show (((4 : Int32) < (nI f) → ((¬ (nI f) = (5 : Int32) → ((¬ (nI f) = (6 : Int32) → (mthr (sp_rfal f) [.inl (nI f)] S 0 S (0 + 1) (0 + 6))) ∧ ((nI f) = (6 : Int32) → (mthr (sp_rfal f) [.inl (nI f)] S 3 S (0 + 1) (0 + 6))))) ∧ ((nI f) = (5 : Int32) → (mthr (sp_rfal f) [.inl (nI f)] S 2 S (0 + 1) (0 + 6))))) ∧ (¬ (4 : Int32) < (nI f) → (mthr (sp_rfal f) [.inl (nI f)] S 1 S (0 + 1) (0 + 6))))
    have c4 : (4 : Int32) < nI f ↔ 4 < f := nI_ltI (a := 4) (by decide) (by omega)
    have c5 : nI f = 5 ↔ f = 5 := nI_eq (b := 5) (by omega) (by decide)
    have c6 : nI f = 6 ↔ f = 6 := nI_eq (b := 6) (by omega) (by decide)
    exact ⟨fun a => ⟨fun b => ⟨fun c => ⟨Or.inr (Or.inr (Or.inr ⟨rfl, by
        have := c4.1 a
        have : f ≠ 5 := fun e => b (c5.2 e)
        have : f ≠ 6 := fun e => c (c6.2 e)
        omega, rfl⟩)), Nat.le_refl _, Nat.le_refl _⟩, fun c => ⟨Or.inr (Or.inr (Or.inl ⟨rfl, c6.1 c, rfl⟩)), Nat.le_refl _, Nat.le_refl _⟩⟩, fun b => ⟨Or.inr (Or.inl ⟨rfl, c5.1 b, rfl⟩), Nat.le_refl _, Nat.le_refl _⟩⟩, fun a => ⟨Or.inl ⟨rfl, Nat.le_of_not_lt (fun q => a (c4.2 q)), rfl⟩, Nat.le_refl _, Nat.le_refl _⟩⟩
  · exact fun _ _ _ _ _ h => by cases h
theorem u_rfal (l : Launch) (hlt : l.stackTraces = false) : UsX l yX14_fail (Cond.code yX14_fail cX14_fail 1 none) none 6 89 99 T_rfal := by
  intro Rc Rs av S cs sl K Kx h
  unfold T_rfal at h
  split at h
  · rename_i f_v
    obtain ⟨f, rfl, h_1⟩ := h
    obtain ⟨hp, hc, hs, hk, hx0, hx1, hx2, hx3⟩ := h_1
    refine ⟨(sp_rfal f), c_rfal l hlt f, fun _ _ _ => trivial, ⟨rfl, hp⟩, hc, hs, fun S' h8 => by
      obtain ⟨-, h8⟩ := h8
      exact hk _ h8, fun _ _ q => by
      rcases q with ⟨rfl, q⟩ | ⟨rfl, q⟩ | ⟨rfl, q⟩ | ⟨rfl, q⟩
      · obtain ⟨q, rfl⟩ := q
        exact hx0 q
      · obtain ⟨q, rfl⟩ := q
        exact hx1 q
      · obtain ⟨q, rfl⟩ := q
        exact hx2 q
      · obtain ⟨q, rfl⟩ := q
        exact hx3 q⟩
  · exact h.elim
