/-! ===== The reference's checksum ===== -/
def bsC (c : Int32) : Int32 := if c &&& 1 = 1 then ush c 1 ^^^ (-306674912) else ush c 1
def bsN : Nat → Int32 → Int32
  | 0, c => c
  | j + 1, c => bsC (bsN j c)
def crB (B : List Nat) : Nat → Int32
  | 0 => -1
  | k + 1 => bsN 8 (crB B k ^^^ nI (B.getD k 0))
def I_rcs1 (a n : Nat) (B : List Nat) (S : MM) (t : Nat) : KT := fun lo st S1 cs sl => ∃ k, t = (n - k) * 100 + 50 ∧ k ≤ n ∧ lo = [(0, .inr (.inr (some a))), (1, .inl (nI n)), (2, .inl (crB B k)), (3, .inl (nI k))] ∧ st = [] ∧ S = S1 ∧ cs = 0 ∧ sl = 0
def I_rcs2 (a n : Nat) (B : List Nat) (S : MM) (t : Nat) : KT := fun lo st S1 cs sl => ∃ k j, t = (n - k) * 100 + (8 - j) ∧ k < n ∧ j ≤ 8 ∧ lo = [(0, .inr (.inr (some a))), (1, .inl (nI n)), (2, .inl (bsN j (crB B k ^^^ nI (B.getD k 0)))), (3, .inl (nI k)), (4, .inl (nI j))] ∧ st = [] ∧ S = S1 ∧ cs = 0 ∧ sl = 0
def T_rcs : TR := fun Rc Rs av S cs sl K _Kx => match av with
  | [.inr (.inr a_o), .inl n_v] => pa a_o fun a => (∃ (n : Nat), n_v = nI n ∧ (∃ (B : List Nat), (isO S 16 a ∧ n ≤ mN S a ∧ mN S a ≤ 100000 ∧ ∀ j, j < n → eI S a j &&& 255 = nI (B.getD j 0)) ∧ cs ≤ Rc ∧ sl ≤ Rs ∧ (K (some (.inl (crB B n ^^^ -1))) S cs sl)))
  | _ => False
def sp_rcs (a : Nat) (n : Nat) (B : List Nat) : Sp := (fun av S => av = [.inr (.inr (some a)), .inl (nI n)] ∧ (isO S 16 a ∧ n ≤ mN S a ∧ mN S a ≤ 100000 ∧ ∀ j, j < n → eI S a j &&& 255 = nI (B.getD j 0)), fun _ S => 0, fun _ S => 0, fun _ S rv S' => rv = (some (.inl (crB B n ^^^ -1))) ∧ S' = S, fun _ _ _ _ => False)
def tX14_checksum : CD := [(0, .iconst (-1)), (1, .istore_n 2), (2, .iconst 0), (3, .istore_n 3), (4, .iload_n 3), (5, .iload_n 1), (6, .if_icmp .ge 56), (9, .iload_n 2), (10, .aload_n 0), (11, .iload_n 3), (12, .baload), (13, .sipush 255), (16, .iand), (17, .ixor), (18, .istore_n 2), (19, .iconst 0), (20, .istore 4), (22, .iload 4), (24, .bipush 8), (26, .if_icmp .ge 30), (29, .iload_n 2), (30, .iconst 1), (31, .iand), (32, .iconst 1), (33, .if_icmp .ne 13), (36, .iload_n 2), (37, .iconst 1), (38, .iushr), (39, .ldc_w 308), (42, .ixor), (43, .goto 6), (46, .iload_n 2), (47, .iconst 1), (48, .iushr), (49, .istore_n 2), (50, .iinc 4 1), (53, .goto (-31)), (56, .iinc 3 1), (59, .goto (-55)), (62, .iload_n 2), (63, .iconst (-1)), (64, .ixor), (65, .ireturn)]
set_option maxRecDepth 100000 in
theorem kX14_checksum : chk cX14_checksum tX14_checksum = true := by decide +kernel

set_option maxRecDepth 100000 in
set_option maxHeartbeats 2000000 in
theorem c_rcs (l : Launch) : ∀ (a : Nat) (n : Nat) (B : List Nat), Ct l yX14_checksum cX14_checksum 5 (some .int) 0 0 (sp_rcs a n B) := by
  intro a n B
  refine Ct.of (fX14, nX14, aX14, iX14, lX14, [], qX14, gX14, []) false tX14_checksum (fun _ S => look [(4, ([0,1,2,3], I_rcs1 a n B S)), (22, ([0,1,2,3,4], I_rcs2 a n B S))]) (by decide) (by decide) kX14_checksum ⟨_, _, rfl⟩ fX14_ok nX14_ok aX14_ok iX14_ok lX14_ok (fun _ _ _ _ _ _ _ _ _ _ _ _ _ _ _ _ _ _ => no_all) qX14_ok gX14_ok rfl ?_ ?_
  · rintro _ S ⟨rfl, hp⟩
    refine ⟨Nat.le_of_ble_eq_true rfl, 300, ?_⟩
    show (∃ k1, I_rcs1 a n B S k1 [(0, .inr (.inr (some a))), (1, .inl (nI n)), (2, .inl (-1 : Int32)), (3, .inl (0 : Int32))] [] S 0 0)
    exact ⟨(n - 0) * 100 + 50, 0, rfl, Nat.zero_le _, rfl, rfl, rfl, rfl, rfl⟩
  · intro av S hpre pc I hI k lo st S1 cs sl h
    obtain ⟨rfl, hp⟩ := hpre
    have hm := look_in hI
    simp only [List.mem_cons, List.not_mem_nil, or_false] at hm
    rcases hm with hm | hm
    · cases hm
      obtain ⟨k, rfl, hk, rfl, rfl, rfl, rfl, rfl⟩ := h
      refine ⟨300, ?_⟩
      show (((nI n) ≤ (nI k) → (([] : List MV) = [] ∧ mret (some .int) (sp_rcs a n B) [.inr (.inr (some a)), .inl (nI n)] S (some (.inl ((crB B k) ^^^ (-1 : Int32)))) S 0 0)) ∧ (¬ (nI n) ≤ (nI k) → ((isO S 16 a ∨ isO S 20 a) ∧ inR S a (nI k) ∧ (∃ k1, k1 < ((n - k) * 100 + 50) ∧ I_rcs2 a n B S k1 [(0, .inr (.inr (some a))), (1, .inl (nI n)), (2, .inl ((crB B k) ^^^ ((eI S a (nI k).toNatClampNeg) &&& (255 : Int32)))), (3, .inl (nI k)), (4, .inl (0 : Int32))] [] S 0 0))))
      obtain ⟨h1, h2, h3, h4⟩ := hp
      refine if_le (by omega) (by omega) (fun q => ⟨rfl, trivial, ⟨?_, rfl⟩, Nat.le_refl _, Nat.le_refl _⟩) (fun q => ⟨Or.inl h1, inRn rfl (by omega) (by omega), (n - k) * 100 + (8 - 0), by omega, k, 0, rfl, q, Nat.zero_le _, ?_, rfl, rfl, rfl, rfl⟩)
      · rw [show k = n by omega]
      · rw [nI_clamp (by omega), h4 k q]; rfl
    · cases hm
      obtain ⟨k, j, rfl, hk, hj, rfl, rfl, rfl, rfl, rfl⟩ := h
      refine ⟨300, ?_⟩
      show (((8 : Int32) ≤ (nI j) → (∃ k1, k1 < ((n - k) * 100 + (8 - j)) ∧ I_rcs1 a n B S k1 [(0, .inr (.inr (some a))), (1, .inl (nI n)), (2, .inl (bsN j (crB B k ^^^ nI (B.getD k 0)))), (3, .inl ((nI k) + (1 : Int32)))] [] S 0 0)) ∧ (¬ (8 : Int32) ≤ (nI j) → ((¬ ((bsN j (crB B k ^^^ nI (B.getD k 0))) &&& (1 : Int32)) = (1 : Int32) → (∃ k1, k1 < ((n - k) * 100 + (8 - j)) ∧ I_rcs2 a n B S k1 [(0, .inr (.inr (some a))), (1, .inl (nI n)), (2, .inl (((bsN j (crB B k ^^^ nI (B.getD k 0))).toUInt32 >>> ((1 : Int32).toUInt32 &&& Int32.toUInt32 31)).toInt32)), (3, .inl (nI k)), (4, .inl ((nI j) + (1 : Int32)))] [] S 0 0)) ∧ (((bsN j (crB B k ^^^ nI (B.getD k 0))) &&& (1 : Int32)) = (1 : Int32) → (∃ k1, k1 < ((n - k) * 100 + (8 - j)) ∧ I_rcs2 a n B S k1 [(0, .inr (.inr (some a))), (1, .inl (nI n)), (2, .inl ((((bsN j (crB B k ^^^ nI (B.getD k 0))).toUInt32 >>> ((1 : Int32).toUInt32 &&& Int32.toUInt32 31)).toInt32) ^^^ (-306674912 : Int32))), (3, .inl (nI k)), (4, .inl ((nI j) + (1 : Int32)))] [] S 0 0)))))
      refine if_le (a := 8) (by decide) (by omega) (fun q => ⟨(n - (k + 1)) * 100 + 50, by omega, k + 1, rfl, hk, ?_, rfl, rfl, rfl, rfl⟩) (fun q => ⟨fun w => ⟨(n - k) * 100 + (8 - (j + 1)), by omega, k, j + 1, rfl, hk, q, ?_, rfl, rfl, rfl, rfl⟩, fun w => ⟨(n - k) * 100 + (8 - (j + 1)), by omega, k, j + 1, rfl, hk, q, ?_, rfl, rfl, rfl, rfl⟩⟩)
      · rw [nI_1, crB, show j = 8 by omega]
      · rw [nI_1, bsN, bsC, if_neg w]; rfl
      · rw [nI_1, bsN, bsC, if_pos w]; rfl
theorem u_rcs (l : Launch) : Us l yX14_checksum cX14_checksum 5 (some .int) 0 0 99 T_rcs := by
  intro Rc Rs av S cs sl K Kx h
  unfold T_rcs at h
  split at h
  · rename_i a_o n_v
    obtain ⟨a, rfl, h_1⟩ := pa_of h
    obtain ⟨n, rfl, h_2⟩ := h_1
    obtain ⟨B, hp, hc, hs, hk⟩ := h_2
    refine ⟨(sp_rcs a n B), c_rcs l a n B, fun _ _ _ => trivial, ⟨rfl, hp⟩, hc, hs, fun v9 S' h8 => by
      obtain ⟨h7, h8⟩ := h8
      cases h7
      subst h8
      exact hk, fun _ _ q => q.elim⟩
  · exact h.elim
