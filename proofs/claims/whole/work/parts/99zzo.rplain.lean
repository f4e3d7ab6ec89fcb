/-! ===== The reference: plainPiece ===== -/
def rpB (U : List Nat) (a b : Nat) : List Nat := if b = a then [] else vbN 5 (2 * (b - a)) ++ (U.drop a).take (b - a)
theorem lN_dbl (n : Nat) : (2 : Int64) * lN n = lN (2 * n) := by
  show Int64.ofNat 2 * lN n = lN (2 * n)
  unfold lN
  rw [Int64.ofNat_mul]
theorem b8_of {v : Int32} {u : Nat} (h : v &&& 255 = nI u) (hu : u < 256) : b8 v = u := by
  rw [b8_and] at h
  exact (nI_eq (by have := b8_lt v; omega) (by omega)).1 h
theorem tk_sn {U : List Nat} {a j : Nat} (hj : j < U.length) (ha : a ≤ j) : (U.drop a).take (j + 1 - a) = (U.drop a).take (j - a) ++ [U.getD j 0] := by
  have e : j + 1 - a = (j - a) + 1 := by omega
  rw [e, List.take_succ, List.getElem?_drop, show a + (j - a) = j by omega, List.getD_eq_getElem?_getD, List.getElem?_eq_getElem hj]
  rfl
def I_rpp (t a b : Nat) (U Pk : List Nat) (F : Nat → Nat × Nat) (z : Nat → Nat) (Y : Nat → Nat → Nat) (R : Rb) (kz : Nat → Nat) (S : MM) (k : Nat) : KT := fun lo st S1 cs sl => ∃ j, j + k = b ∧ a ≤ j ∧ b ≠ a ∧ ouQ S S1 F t z Y R kz 29 (Pk ++ (vbN 5 (2 * (b - a)) ++ (U.drop a).take (j - a))) ∧ lo = [(0, .inr (.inr (some t))), (2, .inl (nI b)), (3, .inl (nI j))] ∧ st = [] ∧ cs = 0 ∧ sl = 0
def T_rpp : TR := fun Rc Rs av S cs sl K _Kx => match av with
  | [.inr (.inr t_o), .inl a_v, .inl b_v] => pa t_o fun t => (∃ (a : Nat), a_v = nI a ∧ (∃ (b : Nat), b_v = nI b ∧ (∃ (F : Nat → Nat × Nat) (z : Nat → Nat) (Y : Nat → Nat → Nat) (R : Rb) (kz : Nat → Nat) (U Pk : List Nat), (MD S F t z Y R kz ∧ Ou S (z 30) (z (70 + 30)) U ∧ Ou S (z 29) (z (70 + 29)) Pk ∧ a ≤ b ∧ b ≤ U.length ∧ b ≤ 32776 ∧ Pk.length + 10 + (b - a) ≤ 1000000) ∧ cs ≤ Rc ∧ sl ≤ Rs ∧ (∀ (S' : MM), (ouQ S S' F t z Y R kz 29 (Pk ++ rpB U a b)) → K none S' cs sl))))
  | _ => False
def sp_rpp (t : Nat) (a : Nat) (b : Nat) (F : Nat → Nat × Nat) (z : Nat → Nat) (Y : Nat → Nat → Nat) (R : Rb) (kz : Nat → Nat) (U Pk : List Nat) : Sp := (fun av S => av = [.inr (.inr (some t)), .inl (nI a), .inl (nI b)] ∧ (MD S F t z Y R kz ∧ Ou S (z 30) (z (70 + 30)) U ∧ Ou S (z 29) (z (70 + 29)) Pk ∧ a ≤ b ∧ b ≤ U.length ∧ b ≤ 32776 ∧ Pk.length + 10 + (b - a) ≤ 1000000), fun _ S => 0, fun _ S => 0, fun _ S rv S' => rv = none ∧ (ouQ S S' F t z Y R kz 29 (Pk ++ rpB U a b)), fun _ _ _ _ => False)
def tX14_plainPiece : CD := [(0, .iload_n 2), (1, .iload_n 1), (2, .if_icmp .ne 4), (5, .return_), (6, .aload_n 0), (7, .getfield 88), (10, .ldc2_w 382), (13, .iload_n 2), (14, .iload_n 1), (15, .isub), (16, .i2l), (17, .lmul), (18, .invokevirtual 326), (21, .iload_n 1), (22, .istore_n 3), (23, .iload_n 3), (24, .iload_n 2), (25, .if_icmp .ge 25), (28, .aload_n 0), (29, .getfield 88), (32, .aload_n 0), (33, .getfield 91), (36, .getfield 316), (39, .iload_n 3), (40, .baload), (41, .invokevirtual 312), (44, .iinc 3 1), (47, .goto (-24)), (50, .return_)]
set_option maxRecDepth 100000 in
theorem kX14_plainPiece : chk cX14_plainPiece tX14_plainPiece = true := by decide +kernel
theorem vX14_plainPiece_326 : ∀ w ∈ ([.methodLink RX14 326 yX13_number, .instanceMethod yX13_number, .selects yX13_number.cls yX13_number yX13_number, .initialized yX13_number.cls, .code yX13_number cX13_number 5 none] : List Cond), w ∈ lw_good := List.forall_mem_cons.mpr ⟨mgd 2254 (by decide +kernel) (by decide +kernel), List.forall_mem_cons.mpr ⟨mgd 2255 (by decide +kernel) (by decide +kernel), List.forall_mem_cons.mpr ⟨mgd 2256 (by decide +kernel) (by decide +kernel), List.forall_mem_cons.mpr ⟨mgd 137 (by decide +kernel) (by decide +kernel), List.forall_mem_cons.mpr ⟨mgd 2257 (by decide +kernel) (by decide +kernel), fun _ h => absurd h List.not_mem_nil⟩⟩⟩⟩⟩
theorem vX14_plainPiece_312 : ∀ w ∈ ([.methodLink RX14 312 yX13_one, .instanceMethod yX13_one, .selects yX13_one.cls yX13_one yX13_one, .initialized yX13_one.cls, .code yX13_one cX13_one 2 none] : List Cond), w ∈ lw_good := List.forall_mem_cons.mpr ⟨mgd 2250 (by decide +kernel) (by decide +kernel), List.forall_mem_cons.mpr ⟨mgd 2251 (by decide +kernel) (by decide +kernel), List.forall_mem_cons.mpr ⟨mgd 2252 (by decide +kernel) (by decide +kernel), List.forall_mem_cons.mpr ⟨mgd 137 (by decide +kernel) (by decide +kernel), List.forall_mem_cons.mpr ⟨mgd 2253 (by decide +kernel) (by decide +kernel), fun _ h => absurd h List.not_mem_nil⟩⟩⟩⟩⟩
set_option maxRecDepth 100000 in
set_option maxHeartbeats 2000000 in
theorem c_rpp (l : Launch) : ∀ (t : Nat) (a : Nat) (b : Nat) (F : Nat → Nat × Nat) (z : Nat → Nat) (Y : Nat → Nat → Nat) (R : Rb) (kz : Nat → Nat) (U Pk : List Nat), Ct l yX14_plainPiece cX14_plainPiece 4 none 2 45 (sp_rpp t a b F z Y R kz U Pk) := by
  intro t a b F z Y R kz U Pk
  refine Ct.of (fX14, nX14, aX14, iX14, lX14, [(326, 0, 2, 0, T_onu), (312, 0, 2, 0, T_oon)], qX14, gX14, []) false tX14_plainPiece (fun _ S => look [(23, ([0,2,3], I_rpp t a b U Pk F z Y R kz S))]) (by decide) (by decide) kX14_plainPiece ⟨_, _, rfl⟩ fX14_ok nX14_ok aX14_ok iX14_ok lX14_ok (fun p e R s m args below meth c Q D cy z r A C hR1 hR2 => List.forall_mem_cons.mpr ⟨cOK_use (fun _ _ _ _ _ _ _ _ h => let ⟨sp, h1, h2, h3⟩ := u_onu l _ _ _ _ _ _ _ _ h; ⟨sp, cOK_V C h1 vX14_plainPiece_326 ⟨by decide, by decide, by decide +kernel⟩ ⟨by rw [hR1]; decide, by rw [hR2]; decide⟩ (k := 14) (T := TX13) (N := 2) rfl (by decide) h2, h3⟩), List.forall_mem_cons.mpr ⟨cOK_use (fun _ _ _ _ _ _ _ _ h => let ⟨sp, h1, h2, h3⟩ := u_oon l _ _ _ _ _ _ _ _ h; ⟨sp, cOK_V C h1 vX14_plainPiece_312 ⟨by decide, by decide, by decide +kernel⟩ ⟨by rw [hR1]; decide, by rw [hR2]; decide⟩ (k := 14) (T := TX13) (N := 2) rfl (by decide) h2, h3⟩), fun _ h => absurd h List.not_mem_nil⟩⟩) qX14_ok gX14_ok rfl ?_ ?_
  · rintro _ S ⟨rfl, hp⟩
    refine ⟨Nat.le_of_ble_eq_true rfl, 300, ?_⟩
    show ((¬ (nI b) = (nI a) → (isO S 15 t ∧ (0 = 0 ∧ ((pa (mR S 1529 t) fun a_1 => (∃ (cb_2 : Nat) (B_3 : List Nat) (n_4 : Nat), (Ou S a_1 cb_2 B_3 ∧ ((2 : Int64) * (((nI b) - (nI a)).toInt64)) = lN n_4 ∧ n_4 < 2 ^ 35 ∧ B_3.length + 5 ≤ 1000000) ∧ 0 ≤ 0 ∧ 0 ≤ 0 ∧ (∀ (S_5 : MM), (ouP S S_5 a_1 cb_2 (B_3 ++ vbN 5 n_4)) → (∃ k1, I_rpp t a b U Pk F z Y R kz S k1 [(0, .inr (.inr (some t))), (2, .inl (nI b)), (3, .inl (nI a))] [] S_5 0 0)))))))) ∧ ((nI b) = (nI a) → (([] : List MV) = [] ∧ mret none (sp_rpp t a b F z Y R kz U Pk) [.inr (.inr (some t)), .inl (nI a), .inl (nI b)] S none S 0 0)))
    obtain ⟨h, hU, hP, h1, h2, h3, h4⟩ := hp
    have hu6 := hU.2.2.2.2.2.1
    obtain ⟨a1, -⟩ := h 10 29 (Or.inr (by decide))
    refine if_ne (by omega) (by omega) (fun w => ?_) (fun w => ?_)
    · refine ⟨(h 0).1, rfl, pa_i a1 ⟨z (70 + 29), Pk, 2 * (b - a), ⟨hP, by rw [pk_sub h1, nI_l (by omega), lN_dbl], by omega, by omega⟩, Nat.le_refl _, Nat.le_refl _, fun S5 q => ?_⟩⟩
      obtain ⟨o5, k5⟩ := q
      have m5 := (h.out (k0 := 29) (Or.inr (by decide)) k5 o5).1
      refine ⟨b - a, a, by omega, Nat.le_refl _, w, ⟨m5, ?_, k5⟩, rfl, rfl, rfl, rfl⟩
      rw [Nat.sub_self, List.take_zero, List.append_nil]
      exact o5
    · have e : rpB U a b = [] := if_pos w
      refine ⟨rfl, trivial, ⟨rfl, h, ?_, Keep.rf⟩, Nat.le_refl _, Nat.le_refl _⟩
      rw [e, List.append_nil]; exact hP
  · intro av S hpre pc I hI k lo st S1 cs sl h
    obtain ⟨rfl, hp⟩ := hpre
    have hm := look_in hI
    rw [List.mem_singleton] at hm
    cases hm
    obtain ⟨j, hj, haj, hne, hQ, rfl, rfl, rfl, rfl⟩ := h
    refine ⟨300, ?_⟩
    show (((nI b) ≤ (nI j) → (([] : List MV) = [] ∧ mret none (sp_rpp t a b F z Y R kz U Pk) [.inr (.inr (some t)), .inl (nI a), .inl (nI b)] S none S1 0 0)) ∧ (¬ (nI b) ≤ (nI j) → (isO S1 15 t ∧ (isO S1 15 t ∧ (pa (mR S1 1530 t) fun a_1 => isO S1 14 a_1 ∧ (pa (mR S1 1400 a_1) fun a_2 => (isO S1 16 a_2 ∨ isO S1 20 a_2) ∧ inR S1 a_2 (nI j) ∧ (0 = 0 ∧ ((pa (mR S1 1529 t) fun a_3 => (∃ (cb_4 : Nat) (B_5 : List Nat), (Ou S1 a_3 cb_4 B_5 ∧ B_5.length < 1000000) ∧ 0 ≤ 0 ∧ 0 ≤ 0 ∧ (∀ (S_6 : MM), (ouP S1 S_6 a_3 cb_4 (B_5 ++ [b8 (eI S1 a_2 (nI j).toNatClampNeg)])) → (∃ k1, k1 < k ∧ I_rpp t a b U Pk F z Y R kz S k1 [(0, .inr (.inr (some t))), (2, .inl (nI b)), (3, .inl ((nI j) + (1 : Int32)))] [] S_6 0 0))))))))))))
    obtain ⟨h, hU, hP, h1, h2, h3, h4⟩ := hp
    obtain ⟨m1, o1, k1⟩ := hQ
    obtain ⟨a1, b2, b3, -⟩ := m1 10 29 (Or.inr (by decide))
    obtain ⟨c1, c2, c3, -⟩ := m1 10 30 (Or.inr (by decide))
    have hne2 : ∀ {x v}, F x = (110, v) → (v ≠ 29 ∧ v ≠ 100 + 29) → ¬ (x = z 29 ∨ x = z (70 + 29)) := fun {x v} e hv q => by
      rcases q with q | q
      · rw [q, b2] at e
        injection e with _ e
        omega
      · rw [q, b3] at e
        injection e with _ e
        omega
    have oU : Ou S1 (z 30) (z (70 + 30)) U := hU.kp k1 (hne2 c2 (by decide)) (hne2 c3 (by decide))
    have hu6 := hU.2.2.2.2.2.1
    refine if_le (by omega) (by omega) (fun w => ?_) (fun w => ?_)
    · have hjb : j = b := by omega
      subst hjb
      have e : rpB U a j = vbN 5 (2 * (j - a)) ++ (U.drop a).take (j - a) := if_neg hne
      refine ⟨rfl, trivial, ⟨rfl, m1, ?_, k1⟩, Nat.le_refl _, Nat.le_refl _⟩
      rw [e]; exact o1
    · have hjU : j < U.length := by omega
      have hv := oU.2.2.2.2.2.2.2.2 j hjU (by omega)
      have hm : U.getD j 0 ∈ U := by
        rw [List.getD_eq_getElem?_getD, List.getElem?_eq_getElem hjU]
        exact List.getElem_mem hjU
      have hb := b8_of hv (oU.2.2.2.2.2.2.1 _ hm)
      have v5 := vbN_len 5 (2 * (b - a))
      refine ⟨(m1 0).1, (m1 0).1, pa_i c1 ⟨oU.1, pa_i oU.2.1 ⟨Or.inl oU.2.2.1, inRn oU.2.2.2.1 (by omega) (by decide), rfl, pa_i a1 ⟨z (70 + 29), _, ⟨o1, ?_⟩, Nat.le_refl _, Nat.le_refl _, fun S6 q => ?_⟩⟩⟩⟩
      · rw [List.length_append, List.length_append, List.length_take]; omega
      · obtain ⟨o6, k6⟩ := q
        have K6 := k1.tr k6
        have m6 := (h.out (k0 := 29) (Or.inr (by decide)) K6 o6).1
        refine ⟨k - 1, by omega, j + 1, by omega, by omega, hne, ⟨m6, ?_, K6⟩, by rw [nI_1], rfl, rfl, rfl⟩
        rw [nI_clamp (by omega), hb] at o6
        rw [tk_sn hjU haj, ← List.append_assoc, ← List.append_assoc, List.append_assoc Pk]
        exact o6
theorem u_rpp (l : Launch) : Us l yX14_plainPiece cX14_plainPiece 4 none 2 45 15 T_rpp := by
  intro Rc Rs av S cs sl K Kx h
  unfold T_rpp at h
  split at h
  · rename_i t_o a_v b_v
    obtain ⟨t, rfl, h_1⟩ := pa_of h
    obtain ⟨a, rfl, h_2⟩ := h_1
    obtain ⟨b, rfl, h_3⟩ := h_2
    obtain ⟨F, z, Y, R, kz, U, Pk, hp, hc, hs, hk⟩ := h_3
    refine ⟨(sp_rpp t a b F z Y R kz U Pk), c_rpp l t a b F z Y R kz U Pk, fun _ _ h9 => ⟨_, _, h9.1, (h9.2.1 0).1⟩, ⟨rfl, hp⟩, hc, hs, fun S' h8 => by
      obtain ⟨-, h8⟩ := h8
      exact hk _ h8, fun _ _ q => q.elim⟩
  · exact h.elim
