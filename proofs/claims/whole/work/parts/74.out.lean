/-! ===== The reference's Out ===== -/
/-- the object o with its row cb has got the bytes B (beyond its row's end they are counted alone) -/
def Ou (S : MM) (o cb : Nat) (B : List Nat) : Prop := isO S 14 o ∧ mR S 1400 o = some cb ∧ isO S 16 cb ∧ mN S cb = 32776 ∧ mI S 1401 o = nI B.length ∧ B.length ≤ 1000000 ∧ (∀ x ∈ B, x < 256) ∧ (∀ j, fits .byte (.int (eI S cb j)) = true) ∧ ∀ j, j < B.length → j < 32776 → eI S cb j &&& 255 = nI (B.getD j 0)
def ouP (S S' : MM) (o cb : Nat) (B : List Nat) : Prop := Ou S' o cb B ∧ Keep (fun b => b = o ∨ b = cb) S S'
def T_oon : TR := fun Rc Rs av S cs sl K _Kx => match av with
  | [.inr (.inr o_o), .inl v] => pa o_o fun o => (∃ (cb : Nat) (B : List Nat), (Ou S o cb B ∧ B.length < 1000000) ∧ cs ≤ Rc ∧ sl ≤ Rs ∧ (∀ (S' : MM), (ouP S S' o cb (B ++ [b8 v])) → K none S' cs sl))
  | _ => False
def sp_oon (o : Nat) (v : Int32) (cb : Nat) (B : List Nat) : Sp := (fun av S => av = [.inr (.inr (some o)), .inl v] ∧ (Ou S o cb B ∧ B.length < 1000000), fun _ S => 0, fun _ S => 0, fun _ S rv S' => rv = none ∧ (ouP S S' o cb (B ++ [b8 v])), fun _ _ _ _ => False)
def tX13_one : CD := [(0, .aload_n 0), (1, .getfield 16), (4, .aload_n 0), (5, .getfield 10), (8, .arraylength), (9, .if_icmp .ge 14), (12, .aload_n 0), (13, .getfield 10), (16, .aload_n 0), (17, .getfield 16), (20, .iload_n 1), (21, .i2b), (22, .bastore), (23, .aload_n 0), (24, .dup), (25, .getfield 16), (28, .iconst 1), (29, .iadd), (30, .putfield 16), (33, .return_)]
set_option maxRecDepth 100000 in
theorem kX13_one : chk cX13_one tX13_one = true := by decide +kernel

set_option maxRecDepth 100000 in
set_option maxHeartbeats 2000000 in
theorem c_oon (l : Launch) : ∀ (o : Nat) (v : Int32) (cb : Nat) (B : List Nat), Ct l yX13_one cX13_one 2 none 0 0 (sp_oon o v cb B) := by
  intro o v cb B
  refine Ct.of (fX13, nX13, aX13, iX13, lX13, [], qX13, gX13, []) false tX13_one (fun _ _ _ => none) (by decide) (by decide) kX13_one ⟨_, _, rfl⟩ fX13_ok nX13_ok aX13_ok iX13_ok lX13_ok (fun _ _ _ _ _ _ _ _ _ _ _ _ _ _ _ _ _ _ => no_all) qX13_ok gX13_ok rfl ?_ ?_
  · rintro _ S ⟨rfl, hp⟩
    refine ⟨Nat.le_of_ble_eq_true rfl, 300, ?_⟩
    show (isO S 14 o ∧ (isO S 14 o ∧ (pa (mR S 1400 o) fun a_1 => ∃ v_2 : Int32, (a_1 ∈ mL S ∧ ¬ mK S a_1 < 16 ∧ mK S a_1 < 29 ∧ v_2 = Int32.ofNat (mN S a_1) ∨ a_1 = mZ S ∧ v_2 = 0) ∧ ((v_2 ≤ (mI S 1401 o) → (isO S 14 o ∧ (True ∧ (isO S 14 o ∧ (([] : List MV) = [] ∧ mret none (sp_oon o v cb B) [.inr (.inr (some o)), .inl v] S none (sI S 1401 o ((mI S 1401 o) + (1 : Int32))) 0 0))))) ∧ (¬ v_2 ≤ (mI S 1401 o) → (isO S 14 o ∧ (isO S 14 o ∧ (pa (mR S 1400 o) fun a_3 => ((isO S 16 a_3 ∧ inR S a_3 (mI S 1401 o) ∧ (isO (rI S a_3 (upd (eI S a_3) (mI S 1401 o).toNatClampNeg v.toInt8.toInt32.toInt8.toInt32)) 14 o ∧ (True ∧ (isO (rI S a_3 (upd (eI S a_3) (mI S 1401 o).toNatClampNeg v.toInt8.toInt32.toInt8.toInt32)) 14 o ∧ (([] : List MV) = [] ∧ mret none (sp_oon o v cb B) [.inr (.inr (some o)), .inl v] S none (sI (rI S a_3 (upd (eI S a_3) (mI S 1401 o).toNatClampNeg v.toInt8.toInt32.toInt8.toInt32)) 1401 o ((mI (rI S a_3 (upd (eI S a_3) (mI S 1401 o).toNatClampNeg v.toInt8.toInt32.toInt8.toInt32)) 1401 o) + (1 : Int32))) 0 0))))) ∨ (isO S 20 a_3 ∧ inR S a_3 (mI S 1401 o) ∧ (isO (rI S a_3 (upd (eI S a_3) (mI S 1401 o).toNatClampNeg (vp_nar .boolean v.toInt8.toInt32))) 14 o ∧ (True ∧ (isO (rI S a_3 (upd (eI S a_3) (mI S 1401 o).toNatClampNeg (vp_nar .boolean v.toInt8.toInt32))) 14 o ∧ (([] : List MV) = [] ∧ mret none (sp_oon o v cb B) [.inr (.inr (some o)), .inl v] S none (sI (rI S a_3 (upd (eI S a_3) (mI S 1401 o).toNatClampNeg (vp_nar .boolean v.toInt8.toInt32))) 1401 o ((mI (rI S a_3 (upd (eI S a_3) (mI S 1401 o).toNatClampNeg (vp_nar .boolean v.toInt8.toInt32))) 1401 o) + (1 : Int32))) 0 0))))))))))))))
    obtain ⟨⟨h1, h2, h3, h4, h5, h6, h7, h8, h9⟩, hl⟩ := hp
    have hoc : o ≠ cb := isO_ne h1 h3 (by decide)
    have hb : ∀ x ∈ B ++ [b8 v], x < 256 := fun x hx => by
      rcases List.mem_append.1 hx with q | q
      · exact h7 x q
      · rw [List.mem_singleton.1 q]; exact b8_lt v
    have gd : ∀ j, j < B.length → (B ++ [b8 v]).getD j 0 = B.getD j 0 := fun j hj => by
      rw [List.getD_eq_getElem?_getD, List.getD_eq_getElem?_getD, List.getElem?_append, if_pos hj]
    rw [h5]
    refine ⟨h1, h1, pa_i h2 ⟨nI 32776, Or.inl ⟨h3.1, by rw [h3.2]; decide, by rw [h3.2]; decide, by rw [h4]; rfl⟩, if_le (by decide) (by omega) (fun z => ?_) (fun z => ?_)⟩⟩
    · refine ⟨h1, trivial, h1, rfl, trivial, ⟨rfl, ⟨h1, h2, h3, h4, ?_, by rw [List.length_append, List.length_singleton]; omega, hb, h8, fun j hj hj2 => ?_⟩, Keep.sI (P := fun b => b = o ∨ b = cb) Keep.rf (Or.inl rfl)⟩, Nat.le_refl _, Nat.le_refl _⟩
      · rw [mI_sI, if_pos ⟨rfl, rfl⟩, nI_1, List.length_append, List.length_singleton]
      · rw [List.length_append, List.length_singleton] at hj
        rw [gd j (by omega)]
        exact h9 j (by omega) hj2
    · have ec : (nI B.length).toNatClampNeg = B.length := nI_clamp (by omega)
      refine ⟨h1, h1, pa_i h2 (Or.inl ⟨h3, by rw [inR, h4]; exact vp_in_nI z (by decide), isO_rI h1, trivial, isO_rI h1, rfl, trivial, ⟨rfl, ?_⟩, Nat.le_refl _, Nat.le_refl _⟩)⟩
      rw [ec, mI_rI, h5, nI_1]
      have eu : eI (sI (rI S cb (upd (eI S cb) B.length v.toInt8.toInt32.toInt8.toInt32)) 1401 o (nI (B.length + 1))) cb = upd (eI S cb) B.length v.toInt8.toInt32.toInt8.toInt32 := by rw [eI_sI, eI_rI, if_pos rfl]
      refine ⟨⟨isO_sI (isO_rI h1), by rw [mR_sI, mR_rI]; exact h2, isO_sI (isO_rI h3), by rw [mN_sI, mN_rI]; exact h4, ?_, by rw [List.length_append, List.length_singleton]; omega, hb, fun j => ?_, fun j hj hj2 => ?_⟩, Keep.sI (P := fun b => b = o ∨ b = cb) (Keep.rI (P := fun b => b = o ∨ b = cb) Keep.rf (Or.inr rfl)) (Or.inl rfl)⟩
      · rw [mI_sI, if_pos ⟨rfl, rfl⟩, List.length_append, List.length_singleton]
      · rw [eu]; exact sb_fitU h8 (pk_fb _) j
      · rw [List.length_append, List.length_singleton] at hj
        rw [eu]
        by_cases w : j = B.length
        · subst w
          rw [show upd (eI S cb) B.length v.toInt8.toInt32.toInt8.toInt32 B.length = v.toInt8.toInt32.toInt8.toInt32 from if_pos rfl, b8_st]
          simp
        · rw [show upd (eI S cb) B.length v.toInt8.toInt32.toInt8.toInt32 j = eI S cb j from if_neg w, gd j (by omega)]
          exact h9 j (by omega) hj2
  · exact fun _ _ _ _ _ h => by cases h
theorem u_oon (l : Launch) : Us l yX13_one cX13_one 2 none 0 0 14 T_oon := by
  intro Rc Rs av S cs sl K Kx h
  unfold T_oon at h
  split at h
  · rename_i o_o v
    obtain ⟨o, rfl, h_1⟩ := pa_of h
    obtain ⟨cb, B, hp, hc, hs, hk⟩ := h_1
    refine ⟨(sp_oon o v cb B), c_oon l o v cb B, fun _ _ h9 => ⟨_, _, h9.1, h9.2.1.1⟩, ⟨rfl, hp⟩, hc, hs, fun S' h8 => by
      obtain ⟨-, h8⟩ := h8
      exact hk _ h8, fun _ _ q => q.elim⟩
  · exact h.elim
