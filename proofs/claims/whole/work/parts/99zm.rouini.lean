/-! ===== The reference's Out: its constructor ===== -/
def T_oin : TR := fun Rc Rs av S cs sl K _Kx => match av with
  | [.inr (.inr o_o)] => pa o_o fun o => ((isO S 14 o ∧ mI S 1401 o = 0) ∧ cs + 1 ≤ Rc ∧ sl + 32776 ≤ Rs ∧ (∀ (S' : MM), (∃ cb, cb ∉ mL S ∧ Ou S' o cb [] ∧ Keep (fun b => b = o) S S') → K none S' (cs + 1) (sl + 32776)))
  | _ => False
def sp_oin (o : Nat)  : Sp := (fun av S => av = [.inr (.inr (some o))] ∧ (isO S 14 o ∧ mI S 1401 o = 0), fun _ S => 1, fun _ S => 32776, fun _ S rv S' => rv = none ∧ (∃ cb, cb ∉ mL S ∧ Ou S' o cb [] ∧ Keep (fun b => b = o) S S'), fun _ _ _ _ => False)
def tX13_init : CD := [(0, .aload_n 0), (1, .invokespecial 3), (4, .aload_n 0), (5, .ldc 9), (7, .newarray .byte), (9, .putfield 10), (12, .return_)]
set_option maxRecDepth 100000 in
theorem kX13_init : chk cX13_init tX13_init = true := by decide +kernel
theorem vX13_init_3 : ∀ w ∈ ([.methodLink RX13 3 Lib.objectInit, .instanceMethod Lib.objectInit, .code Lib.objectInit ⟨#[0xb1]⟩ 1 none] : List Cond), w ∈ lw_good := List.forall_mem_cons.mpr ⟨mgd 1630 (by decide +kernel) (by decide +kernel), List.forall_mem_cons.mpr ⟨mgd 158 (by decide +kernel) (by decide +kernel), List.forall_mem_cons.mpr ⟨mgd 159 (by decide +kernel) (by decide +kernel), fun _ h => absurd h List.not_mem_nil⟩⟩⟩
set_option maxRecDepth 100000 in
set_option maxHeartbeats 2000000 in
theorem c_oin (l : Launch) : ∀ (o : Nat), Ct l yX13_init cX13_init 1 none 1 20 (sp_oin o) := by
  intro o
  refine Ct.of (fX13, nX13, aX13, iX13, lX13, [(3, 1, 1, 0, T_obj)], qX13, gX13, []) true tX13_init (fun _ _ _ => none) (by decide) (by decide) kX13_init ⟨_, _, rfl⟩ fX13_ok nX13_ok aX13_ok iX13_ok lX13_ok (fun p e R s m args below meth c Q D cy z r A C hR1 hR2 => List.forall_mem_cons.mpr ⟨cOK_use (fun _ _ _ _ _ _ _ _ h => ⟨spObj, cOK_obj C vX13_init_3 ⟨by rw [hR1]; decide, by rw [hR2]; decide⟩, T_obj_ok h⟩), fun _ h => absurd h List.not_mem_nil⟩) qX13_ok gX13_ok rfl ?_ ?_
  · rintro _ S ⟨rfl, hp⟩
    refine ⟨Nat.le_of_ble_eq_true rfl, 300, ?_⟩
    show (1 = 1 ∧ (True ∧ 0 ≤ 1 ∧ 0 ≤ 32776 ∧ ((¬ (32776 : Int32) < 0 ∧ (32776 : Int32).toNatClampNeg * 8 ≤ 536870912 ∧ 0 + 1 ≤ 1 ∧ 0 + (32776 : Int32).toNatClampNeg ≤ 32776 ∧ ∀ q_2, q_2 ∉ mL S → (true = true ∧ (isO (nA S q_2 16 (32776 : Int32).toNatClampNeg) 14 o ∧ (([] : List MV) = [] ∧ mret none (sp_oin o) [.inr (.inr (some o))] S none (sR (nA S q_2 16 (32776 : Int32).toNatClampNeg) 1400 o (some q_2)) (0 + 1) (0 + (32776 : Int32).toNatClampNeg))))))))
    have e0 : (32776 : Int32).toNatClampNeg = 32776 := nI_clamp (n := 32776) (by decide)
    rw [e0]
    refine ⟨rfl, trivial, Nat.zero_le _, Nat.zero_le _, by decide, Nat.le_of_ble_eq_true rfl, Nat.le_refl _, by omega, fun q hq => ⟨rfl, isO_nA hp.1 hq, rfl, trivial, ⟨rfl, q, hq, ⟨isO_sR (isO_nA hp.1 hq), ?_, isO_sR isO_nA_self, ?_, ?_, Nat.zero_le _, fun x hx => (by cases hx), fun j => ?_, fun j hj => absurd hj (Nat.not_lt_zero j)⟩, ?_⟩, Nat.le_refl _, Nat.le_of_ble_eq_true rfl⟩⟩
    · rw [mR_sR, if_pos ⟨rfl, rfl⟩]
    · rw [mN_sR, mN_nA, if_pos rfl]
    · rw [mI_sR, mI_nA]; exact hp.2
    · rw [eI_sR, eI_nA, if_pos rfl]; rfl
    · exact Keep.sR (P := fun b => b = o) (Keep.nA Keep.rf hq) rfl
  · exact fun _ _ _ _ _ h => by cases h
theorem u_oin (l : Launch) : Us l yX13_init cX13_init 1 none 1 20 98 T_oin := by
  intro Rc Rs av S cs sl K Kx h
  unfold T_oin at h
  split at h
  · rename_i o_o
    obtain ⟨o, rfl, h_1⟩ := pa_of h
    obtain ⟨hp, hc, hs, hk⟩ := h_1
    refine ⟨(sp_oin o), c_oin l o, fun _ _ h9 => ⟨_, _, h9.1⟩, ⟨rfl, hp⟩, hc, hs, fun S' h8 => by
      obtain ⟨-, h8⟩ := h8
      exact hk _ h8, fun _ _ q => q.elim⟩
  · exact h.elim
