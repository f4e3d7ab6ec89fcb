/-! ===== The reference's Out: all ===== -/
/-- a row's bytes, those beyond its end as noughts -/
def clp (B : List Nat) : List Nat := B.take 32776 ++ List.replicate (B.length - 32776) 0
theorem clp_len (B : List Nat) : (clp B).length = B.length := by
  rw [clp, List.length_append, List.length_take, List.length_replicate]; omega
theorem clp_id {B : List Nat} (h : B.length ≤ 32776) : clp B = B := by
  rw [clp, List.take_of_length_le h, show B.length - 32776 = 0 by omega]
  exact List.append_nil B
theorem clp_get {B : List Nat} {j : Nat} (hj : j < B.length) : (clp B)[j]? = some (if j < 32776 then B.getD j 0 else 0) := by
  rw [clp, List.getElem?_append, List.length_take]
  by_cases c : j < 32776
  · rw [if_pos (by omega), if_pos c, List.getElem?_take, if_pos c, List.getD_eq_getElem?_getD, List.getElem?_eq_getElem hj]; rfl
  · rw [if_neg (by omega), if_neg c, List.getElem?_replicate, if_pos (by omega)]
theorem tk_snoc {L : List Nat} {j x : Nat} (h : L[j]? = some x) : L.take (j + 1) = L.take j ++ [x] := by
  obtain ⟨hj, e⟩ := List.getElem?_eq_some_iff.1 h
  rw [List.take_succ_eq_append_getElem hj, e]
def I_oal (o cb o2 : Nat) (B B2 : List Nat) (S : MM) (k : Nat) : KT := fun lo st S1 cs sl => ∃ j, j + k = B2.length ∧ Ou S1 o cb (B ++ (clp B2).take j) ∧ Keep (fun b => b = o ∨ b = cb) S S1 ∧ lo = [(0, .inr (.inr (some o))), (1, .inr (.inr (some o2))), (2, .inl (nI j))] ∧ st = [] ∧ cs = 0 ∧ sl = 0
def T_oal : TR := fun Rc Rs av S cs sl K _Kx => match av with
  | [.inr (.inr o_o), .inr (.inr o2_o)] => pa o_o fun o => (pa o2_o fun o2 => (∃ (cb cb2 : Nat) (B B2 : List Nat), (Ou S o cb B ∧ Ou S o2 cb2 B2 ∧ o ≠ o2 ∧ cb ≠ cb2 ∧ B.length + B2.length ≤ 1000000) ∧ cs ≤ Rc ∧ sl ≤ Rs ∧ (∀ (S' : MM), (ouP S S' o cb (B ++ clp B2)) → K none S' cs sl)))
  | _ => False
def sp_oal (o : Nat) (o2 : Nat) (cb cb2 : Nat) (B B2 : List Nat) : Sp := (fun av S => av = [.inr (.inr (some o)), .inr (.inr (some o2))] ∧ (Ou S o cb B ∧ Ou S o2 cb2 B2 ∧ o ≠ o2 ∧ cb ≠ cb2 ∧ B.length + B2.length ≤ 1000000), fun _ S => 0, fun _ S => 0, fun _ S rv S' => rv = none ∧ (ouP S S' o cb (B ++ clp B2)), fun _ _ _ _ => False)
def tX13_all : CD := [(0, .iconst 0), (1, .istore_n 2), (2, .iload_n 2), (3, .aload_n 1), (4, .getfield 16), (7, .if_icmp .ge 32), (10, .aload_n 0), (11, .iload_n 2), (12, .aload_n 1), (13, .getfield 10), (16, .arraylength), (17, .if_icmp .ge 12), (20, .aload_n 1), (21, .getfield 10), (24, .iload_n 2), (25, .baload), (26, .goto 4), (29, .iconst 0), (30, .invokevirtual 24), (33, .iinc 2 1), (36, .goto (-34)), (39, .return_)]
set_option maxRecDepth 100000 in
theorem kX13_all : chk cX13_all tX13_all = true := by decide +kernel
theorem vX13_all_24 : ∀ w ∈ ([.methodLink RX13 24 yX13_one, .instanceMethod yX13_one, .selects yX13_one.cls yX13_one yX13_one, .initialized yX13_one.cls, .code yX13_one cX13_one 2 none] : List Cond), w ∈ lw_good := List.forall_mem_cons.mpr ⟨mgd 2260 (by decide +kernel) (by decide +kernel), List.forall_mem_cons.mpr ⟨mgd 2251 (by decide +kernel) (by decide +kernel), List.forall_mem_cons.mpr ⟨mgd 2252 (by decide +kernel) (by decide +kernel), List.forall_mem_cons.mpr ⟨mgd 137 (by decide +kernel) (by decide +kernel), List.forall_mem_cons.mpr ⟨mgd 2253 (by decide +kernel) (by decide +kernel), fun _ h => absurd h List.not_mem_nil⟩⟩⟩⟩⟩
set_option maxRecDepth 100000 in
set_option maxHeartbeats 2000000 in
theorem c_oal (l : Launch) : ∀ (o : Nat) (o2 : Nat) (cb cb2 : Nat) (B B2 : List Nat), Ct l yX13_all cX13_all 3 none 1 21 (sp_oal o o2 cb cb2 B B2) := by
  intro o o2 cb cb2 B B2
  refine Ct.of (fX13, nX13, aX13, iX13, lX13, [(24, 0, 2, 0, T_oon)], qX13, gX13, []) false tX13_all (fun _ S => look [(2, ([0,1,2], I_oal o cb o2 B B2 S))]) (by decide) (by decide) kX13_all ⟨_, _, rfl⟩ fX13_ok nX13_ok aX13_ok iX13_ok lX13_ok (fun p e R s m args below meth c Q D cy z r A C hR1 hR2 => List.forall_mem_cons.mpr ⟨cOK_use (fun _ _ _ _ _ _ _ _ h => let ⟨sp, h1, h2, h3⟩ := u_oon l _ _ _ _ _ _ _ _ h; ⟨sp, cOK_V C h1 vX13_all_24 ⟨by decide, by decide, by decide +kernel⟩ ⟨by rw [hR1]; decide, by rw [hR2]; decide⟩ (k := 14) (T := TX13) (N := 2) rfl (by decide) h2, h3⟩), fun _ h => absurd h List.not_mem_nil⟩) qX13_ok gX13_ok rfl ?_ ?_
  · rintro _ S ⟨rfl, hp⟩
    refine ⟨Nat.le_of_ble_eq_true rfl, 300, ?_⟩
    show (∃ k1, I_oal o cb o2 B B2 S k1 [(0, .inr (.inr (some o))), (1, .inr (.inr (some o2))), (2, .inl (0 : Int32))] [] S 0 0)
    obtain ⟨h1, h2, h3, h4, h5⟩ := hp
    exact ⟨B2.length, 0, by omega, by rw [List.take_zero, List.append_nil]; exact h1, Keep.rf, rfl, rfl, rfl, rfl⟩
  · intro av S hpre pc I hI k lo st S1 cs sl h
    obtain ⟨rfl, hp⟩ := hpre
    have hm := look_in hI
    rw [List.mem_singleton] at hm
    cases hm
    obtain ⟨j, hj, hO, hK, rfl, rfl, rfl, rfl⟩ := h
    refine ⟨300, ?_⟩
    show (isO S1 14 o2 ∧ (((mI S1 1401 o2) ≤ (nI j) → (([] : List MV) = [] ∧ mret none (sp_oal o o2 cb cb2 B B2) [.inr (.inr (some o)), .inr (.inr (some o2))] S none S1 0 0)) ∧ (¬ (mI S1 1401 o2) ≤ (nI j) → (isO S1 14 o2 ∧ (pa (mR S1 1400 o2) fun a_1 => ∃ v_2 : Int32, (a_1 ∈ mL S1 ∧ ¬ mK S1 a_1 < 16 ∧ mK S1 a_1 < 29 ∧ v_2 = Int32.ofNat (mN S1 a_1) ∨ a_1 = mZ S1 ∧ v_2 = 0) ∧ ((v_2 ≤ (nI j) → (0 = 0 ∧ (∃ (cb_3 : Nat) (B_4 : List Nat), (Ou S1 o cb_3 B_4 ∧ B_4.length < 1000000) ∧ 0 ≤ 0 ∧ 0 ≤ 0 ∧ (∀ (S_5 : MM), (ouP S1 S_5 o cb_3 (B_4 ++ [b8 (0 : Int32)])) → (∃ k1, k1 < k ∧ I_oal o cb o2 B B2 S k1 [(0, .inr (.inr (some o))), (1, .inr (.inr (some o2))), (2, .inl ((nI j) + (1 : Int32)))] [] S_5 0 0))))) ∧ (¬ v_2 ≤ (nI j) → (isO S1 14 o2 ∧ (pa (mR S1 1400 o2) fun a_6 => (isO S1 16 a_6 ∨ isO S1 20 a_6) ∧ inR S1 a_6 (nI j) ∧ (0 = 0 ∧ (∃ (cb_7 : Nat) (B_8 : List Nat), (Ou S1 o cb_7 B_8 ∧ B_8.length < 1000000) ∧ 0 ≤ 0 ∧ 0 ≤ 0 ∧ (∀ (S_9 : MM), (ouP S1 S_9 o cb_7 (B_8 ++ [b8 (eI S1 a_6 (nI j).toNatClampNeg)])) → (∃ k1, k1 < k ∧ I_oal o cb o2 B B2 S k1 [(0, .inr (.inr (some o))), (1, .inr (.inr (some o2))), (2, .inl ((nI j) + (1 : Int32)))] [] S_9 0 0)))))))))))))
    obtain ⟨h1, ⟨a1, a2, a3, a4, a5, a6, a7, a8, a9⟩, h3, h4, h5⟩ := hp
    have n1 : ¬ (o2 = o ∨ o2 = cb) := fun z => z.elim (fun z => h3 z.symm) (fun z => isO_ne a1 h1.2.2.1 (by decide) z)
    have n2 : ¬ (cb2 = o ∨ cb2 = cb) := fun z => z.elim (fun z => isO_ne h1.1 a3 (by decide) z.symm) (fun z => h4 z.symm)
    obtain ⟨k1, k2, -⟩ := hK.2.1 o2 a1.1 n1
    have k3 := (hK.2.1 cb2 a3.1 n2).2.2.2.1
    have b1 := hK.isO a1
    have b3 := hK.isO a3
    have b2 : mR S1 1400 o2 = some cb2 := (k2 _).trans a2
    have b5 : mI S1 1401 o2 = nI B2.length := (k1 _).trans a5
    have b4 : mN S1 cb2 = 32776 := (hK.1 cb2 a3.1).2.2.trans a4
    have cl := clp_len B2
    rw [b5]
    refine ⟨b1, if_le (by omega) (by omega) (fun q => ⟨rfl, trivial, ⟨rfl, ?_, hK⟩, Nat.le_refl _, Nat.le_refl _⟩) (fun q => ⟨b1, pa_i b2 ⟨nI 32776, Or.inl ⟨b3.1, by rw [b3.2]; decide, by rw [b3.2]; decide, by rw [b4]; rfl⟩, ?_⟩⟩)⟩
    · rw [List.take_of_length_le (by omega)] at hO
      exact hO
    · have ln : (B ++ (clp B2).take j).length < 1000000 := by rw [List.length_append, List.length_take]; omega
      have nx : ∀ (v : Int32) (S5 : MM), b8 v = (if j < 32776 then B2.getD j 0 else 0) → ouP S1 S5 o cb ((B ++ (clp B2).take j) ++ [b8 v]) → ∃ k1, k1 < k ∧ I_oal o cb o2 B B2 S k1 [(0, Sum.inr (Sum.inr (some o))), (1, Sum.inr (Sum.inr (some o2))), (2, Sum.inl (nI j + 1))] [] S5 0 0 := by
        intro v S5 hv hq
        refine ⟨k - 1, by omega, j + 1, by omega, ?_, hK.tr hq.2, by rw [nI_1], rfl, rfl, rfl⟩
        rw [tk_snoc (clp_get q), ← hv, ← List.append_assoc]
        exact hq.1
      refine if_le (by decide) (by omega) (fun w => ⟨rfl, cb, _, ⟨hO, ln⟩, Nat.le_refl _, Nat.le_refl _, fun S5 hq => nx 0 S5 (by rw [if_neg (by omega)]; rfl) hq⟩) (fun w => ⟨b1, pa_i b2 ⟨Or.inl b3, inRn b4 w (by decide), rfl, cb, _, ⟨hO, ln⟩, Nat.le_refl _, Nat.le_refl _, fun S5 hq => nx _ S5 ?_ hq⟩⟩)
      rw [if_pos w, nI_clamp (by omega), k3]
      have z := a9 j q w
      rw [b8_and] at z
      have z2 := b8_lt (eI S cb2 j)
      have z3 : B2.getD j 0 < 256 := by
        rw [List.getD_eq_getElem?_getD, List.getElem?_eq_getElem q]
        exact a7 _ (List.getElem_mem q)
      exact (nI_eq (by omega) (by omega)).1 z
theorem u_oal (l : Launch) : Us l yX13_all cX13_all 3 none 1 21 14 T_oal := by
  intro Rc Rs av S cs sl K Kx h
  unfold T_oal at h
  split at h
  · rename_i o_o o2_o
    obtain ⟨o, rfl, h_1⟩ := pa_of h
    obtain ⟨o2, rfl, h_2⟩ := pa_of h_1
    obtain ⟨cb, cb2, B, B2, hp, hc, hs, hk⟩ := h_2
    refine ⟨(sp_oal o o2 cb cb2 B B2), c_oal l o o2 cb cb2 B B2, fun _ _ h9 => ⟨_, _, h9.1, h9.2.1.1⟩, ⟨rfl, hp⟩, hc, hs, fun S' h8 => by
      obtain ⟨-, h8⟩ := h8
      exact hk _ h8, fun _ _ q => q.elim⟩
  · exact h.elim
