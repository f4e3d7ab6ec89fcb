/-! ===== Arrays.fill of shorts, with 0 ===== -/
def T_fillS : TR := fun Rc Rs av S cs sl K _Kx => match av with
  | [.inr (.inr a_o), .inl v] => pa a_o fun a => ((isO S 19 a ∧ mN S a < 2147483648 ∧ v = 0) ∧ cs ≤ Rc ∧ sl ≤ Rs ∧ (K none (rI S a (fillF (eI S a) (mN S a) 0)) cs sl))
  | _ => False
def sp_fillS (a : Nat) (v : Int32)  : Sp := (fun av S => av = [.inr (.inr (some a)), .inl v] ∧ (isO S 19 a ∧ mN S a < 2147483648 ∧ v = 0), fun _ S => 0, fun _ S => 0, fun _ S rv S' => rv = none ∧ S' = rI S a (fillF (eI S a) (mN S a) 0), fun _ _ _ _ => False)
def tJ7_fill_fb410 : CD := [(0, .iconst 0), (1, .istore_n 2), (2, .aload_n 0), (3, .arraylength), (4, .istore_n 3), (5, .iload_n 2), (6, .iload_n 3), (7, .if_icmp .ge 13), (10, .aload_n 0), (11, .iload_n 2), (12, .iload_n 1), (13, .sastore), (14, .iinc 2 1), (17, .goto (-12)), (20, .return_)]
set_option maxRecDepth 100000 in
theorem kJ7_fill_fb410 : chk cJ7_fill_fb410 tJ7_fill_fb410 = true := by decide +kernel

set_option maxRecDepth 100000 in
set_option maxHeartbeats 2000000 in
theorem c_fillS (l : Launch) : ∀ (a : Nat) (v : Int32), Ct l yJ7_fill_fb410 cJ7_fill_fb410 4 none 0 0 (sp_fillS a v) := by
  intro a v
  refine Ct.of (fJ7, nJ7, aJ7, iJ7, lJ7, [], qJ7, gJ7, []) false tJ7_fill_fb410 (fun _ S => look [(5, ([2,3,0,1], I_fill a 0 S))]) (by decide) (by decide) kJ7_fill_fb410 ⟨_, _, rfl⟩ fJ7_ok nJ7_ok aJ7_ok iJ7_ok lJ7_ok (fun _ _ _ _ _ _ _ _ _ _ _ _ _ _ _ _ _ _ => no_all) qJ7_ok gJ7_ok rfl ?_ ?_
  · rintro _ S ⟨rfl, hp⟩
    refine ⟨Nat.le_of_ble_eq_true rfl, 300, ?_⟩
    show (∃ v_1 : Int32, (a ∈ mL S ∧ ¬ mK S a < 16 ∧ mK S a < 29 ∧ v_1 = Int32.ofNat (mN S a) ∨ a = mZ S ∧ v_1 = 0) ∧ (∃ k1, I_fill a 0 S k1 [(2, .inl (0 : Int32)), (3, .inl v_1), (0, .inr (.inr (some a))), (1, .inl v)] [] S 0 0))
    obtain ⟨h1, h2, rfl⟩ := hp
    refine ⟨_, Or.inl ⟨h1.1, by rw [h1.2]; decide, by rw [h1.2]; decide, rfl⟩, mN S a, 0, by omega, rfl, rfl, ?_, rfl, rfl⟩
    rw [fillF_0, rI_id rfl]
  · intro av S hpre pc I hI k lo st S1 cs sl h
    obtain ⟨rfl, hp⟩ := hpre
    have hm := look_in hI
    rw [List.mem_singleton] at hm
    cases hm
    obtain ⟨t, ht, rfl, rfl, rfl, rfl, rfl⟩ := h
    refine ⟨300, ?_⟩
    show (((nI (mN S a)) ≤ (nI t) → (([] : List MV) = [] ∧ mret none (sp_fillS a v) [.inr (.inr (some a)), .inl v] S none (rI S a (fillF (eI S a) t 0)) 0 0)) ∧ (¬ (nI (mN S a)) ≤ (nI t) → (isO (rI S a (fillF (eI S a) t 0)) 19 a ∧ inR (rI S a (fillF (eI S a) t 0)) a (nI t) ∧ (∃ k1, k1 < k ∧ I_fill a 0 S k1 [(2, .inl ((nI t) + (1 : Int32))), (3, .inl (nI (mN S a))), (0, .inr (.inr (some a))), (1, .inl (0 : Int32))] [] (rI (rI S a (fillF (eI S a) t 0)) a (upd (eI (rI S a (fillF (eI S a) t 0)) a) (nI t).toNatClampNeg ((0 : Int32).toInt16.toInt32))) 0 0))))
    obtain ⟨h1, h2, hv⟩ := hp
    refine if_le h2 (by omega) (fun h3 => ⟨rfl, trivial, ⟨rfl, ?_⟩, Nat.le_refl _, Nat.le_refl _⟩) (fun h3 => ⟨h1, vp_in_nI h3 h2, k - 1, by omega, t + 1, by omega, ?_, rfl, ?_, rfl, rfl⟩)
    · rw [show t = mN S a by omega]
    · rw [nI_1]
    · rw [rI_rI, nI_clamp (by omega), eI_rI, if_pos rfl, show ((0 : Int32).toInt16.toInt32) = 0 from by decide, fillF_s]
theorem u_fillS (l : Launch) : Us l yJ7_fill_fb410 cJ7_fill_fb410 4 none 0 0 99 T_fillS := by
  intro Rc Rs av S cs sl K Kx h
  unfold T_fillS at h
  split at h
  · rename_i a_o v
    obtain ⟨a, rfl, h_1⟩ := pa_of h
    obtain ⟨hp, hc, hs, hk⟩ := h_1
    refine ⟨(sp_fillS a v), c_fillS l a v, fun _ _ _ => trivial, ⟨rfl, hp⟩, hc, hs, fun S' h8 => by
      obtain ⟨-, h8⟩ := h8
      subst h8
      exact hk, fun _ _ q => q.elim⟩
  · exact h.elim
