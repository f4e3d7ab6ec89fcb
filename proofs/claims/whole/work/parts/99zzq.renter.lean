/-! ===== The reference: enter (a column) ===== -/
theorem MD.sf {S : MM} {F : Nat → Nat × Nat} {t : Nat} {z : Nat → Nat} {Y : Nat → Nat → Nat} {R : Rb} {kz : Nat → Nat} (h : MD S F t z Y R kz) {f : Nat} (hf : f ∉ [1502, 1508, 1510, 1513, 1514]) (v : Int32) : MD (sI S f t v) F t z Y R kz := by
  refine h.keep0 (P := fun c => c = t) (Keep.sI Keep.rf rfl) (fun b hb => ?_) (fun f' hf' => ?_) (fun f => rfl) (fun _ _ => rfl) (h 12)
  · rw [hb, (h 0).2]
    refine ⟨rfl, fun k _ q => ?_⟩
    injection q with _ q
    omega
  · rw [mI_sI, if_neg (fun q : f' = f ∧ t = t => hf (q.1 ▸ hf'))]
/-- where the columns of the message begin and end -/
def coP (S : MM) (z : Nat → Nat) (cA cE : Nat → Nat) : Prop := ∀ k, k < 5 → eI S (z 38) k = nI (cA k) ∧ eI S (z 39) k = nI (cE k)
def T_rent : TR := fun Rc Rs av S cs sl K _Kx => match av with
  | [.inr (.inr t_o), .inl c_v] => pa t_o fun t => (∃ (c : Nat), c_v = nI c ∧ (∃ (F : Nat → Nat × Nat) (z : Nat → Nat) (Y : Nat → Nat → Nat) (R : Rb) (kz : Nat → Nat) (cA cE : Nat → Nat), (MD S F t z Y R kz ∧ coP S z cA cE ∧ c < 5) ∧ cs ≤ Rc ∧ sl ≤ Rs ∧ (K none (sI (sI S 1535 t (nI (cA c))) 1536 t (nI (cE c))) cs sl)))
  | _ => False
def sp_rent (t : Nat) (c : Nat) (F : Nat → Nat × Nat) (z : Nat → Nat) (Y : Nat → Nat → Nat) (R : Rb) (kz : Nat → Nat) (cA cE : Nat → Nat) : Sp := (fun av S => av = [.inr (.inr (some t)), .inl (nI c)] ∧ (MD S F t z Y R kz ∧ coP S z cA cE ∧ c < 5), fun _ S => 0, fun _ S => 0, fun _ S rv S' => rv = none ∧ S' = sI (sI S 1535 t (nI (cA c))) 1536 t (nI (cE c)), fun _ _ _ _ => False)
def tX14_enter : CD := [(0, .aload_n 0), (1, .aload_n 0), (2, .getfield 97), (5, .iload_n 1), (6, .iaload), (7, .putfield 398), (10, .aload_n 0), (11, .aload_n 0), (12, .getfield 100), (15, .iload_n 1), (16, .iaload), (17, .putfield 401), (20, .return_)]
set_option maxRecDepth 100000 in
theorem kX14_enter : chk cX14_enter tX14_enter = true := by decide +kernel

set_option maxRecDepth 100000 in
set_option maxHeartbeats 2000000 in
theorem c_rent (l : Launch) : ∀ (t : Nat) (c : Nat) (F : Nat → Nat × Nat) (z : Nat → Nat) (Y : Nat → Nat → Nat) (R : Rb) (kz : Nat → Nat) (cA cE : Nat → Nat), Ct l yX14_enter cX14_enter 2 none 0 0 (sp_rent t c F z Y R kz cA cE) := by
  intro t c F z Y R kz cA cE
  refine Ct.of (fX14, nX14, aX14, iX14, lX14, [], qX14, gX14, []) false tX14_enter (fun _ _ _ => none) (by decide) (by decide) kX14_enter ⟨_, _, rfl⟩ fX14_ok nX14_ok aX14_ok iX14_ok lX14_ok (fun _ _ _ _ _ _ _ _ _ _ _ _ _ _ _ _ _ _ => no_all) qX14_ok gX14_ok rfl ?_ ?_
  · rintro _ S ⟨rfl, hp⟩
    refine ⟨Nat.le_of_ble_eq_true rfl, 300, ?_⟩
    show (isO S 15 t ∧ (pa (mR S 1538 t) fun a_1 => ∃ v_2 : Int32, (isO S 17 a_1 ∧ inR S a_1 (nI c) ∧ v_2 = eI S a_1 (nI c).toNatClampNeg ∨ a_1 = (mQ S).1 ∧ vp_in (nI c) 16 ∧ v_2 = mRem (nI c).toNatClampNeg) ∧ (True ∧ (isO S 15 t ∧ (isO (sI S 1535 t v_2) 15 t ∧ (pa (mR (sI S 1535 t v_2) 1539 t) fun a_3 => ∃ v_4 : Int32, (isO (sI S 1535 t v_2) 17 a_3 ∧ inR (sI S 1535 t v_2) a_3 (nI c) ∧ v_4 = eI (sI S 1535 t v_2) a_3 (nI c).toNatClampNeg ∨ a_3 = (mQ (sI S 1535 t v_2)).1 ∧ vp_in (nI c) 16 ∧ v_4 = mRem (nI c).toNatClampNeg) ∧ (True ∧ (isO (sI S 1535 t v_2) 15 t ∧ (([] : List MV) = [] ∧ mret none (sp_rent t c F z Y R kz cA cE) [.inr (.inr (some t)), .inl (nI c)] S none (sI (sI S 1535 t v_2) 1536 t v_4) 0 0)))))))))
    obtain ⟨h, hc, h5⟩ := hp
    have r38 := h 1 38 (by decide)
    have r39 := h 1 39 (by decide)
    have cc : (nI c).toNatClampNeg = c := nI_clamp (by omega)
    exact ⟨(h 0).1, rdI (v := nI (cA c)) r38.1 r38.2.2.1 (inRn (N := 5) r38.2.2.2 h5 (by decide)) (by rw [cc]; exact (hc c h5).1) ⟨trivial, (h 0).1, (h 0).1, rdI (v := nI (cE c)) r39.1 r39.2.2.1 (inRn (N := 5) r39.2.2.2 h5 (by decide)) (by rw [cc]; exact (hc c h5).2) ⟨trivial, (h 0).1, rfl, trivial, ⟨rfl, rfl⟩, Nat.le_refl _, Nat.le_refl _⟩⟩⟩
  · exact fun _ _ _ _ _ h => by cases h
theorem u_rent (l : Launch) : Us l yX14_enter cX14_enter 2 none 0 0 15 T_rent := by
  intro Rc Rs av S cs sl K Kx h
  unfold T_rent at h
  split at h
  · rename_i t_o c_v
    obtain ⟨t, rfl, h_1⟩ := pa_of h
    obtain ⟨c, rfl, h_2⟩ := h_1
    obtain ⟨F, z, Y, R, kz, cA, cE, hp, hc, hs, hk⟩ := h_2
    refine ⟨(sp_rent t c F z Y R kz cA cE), c_rent l t c F z Y R kz cA cE, fun _ _ h9 => ⟨_, _, h9.1, (h9.2.1 0).1⟩, ⟨rfl, hp⟩, hc, hs, fun S' h8 => by
      obtain ⟨-, h8⟩ := h8
      subst h8
      exact hk, fun _ _ q => q.elim⟩
  · exact h.elim
