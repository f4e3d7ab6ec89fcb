/-! ===== Bytes: symbols of UTF-8 ===== -/
def symM (f : Int32) : Nat := if 224 ≤ f then (if 240 ≤ f then 3 else 2) else 1
theorem symM_le (f : Int32) : symM f ≤ 3 := by
  unfold symM
  split
  · split <;> decide
  · decide
def symGo (B : List Nat) (n : Nat) : Nat → Nat → Int32 → Option Int32
  | 0, _, c => some c
  | t + 1, k, c => if bAt B (nI (n + k)) &&& 192 = 128 then symGo B n t (k + 1) (c <<< ((6 : Int32) &&& 31) ||| bAt B (nI (n + k)) &&& 63) else none
def symR (B : List Nat) (n m t k : Nat) (c : Int32) : Int32 := match symGo B n t k c with
  | none => -1
  | some c => if isCh c = 0 then -1 else if wOf c = nI m + 1 then c else -1
def symF (B : List Nat) (n : Nat) (f : Int32) : Int32 := if 128 ≤ f then (if f < 192 ∨ 247 < f ∨ B.length ≤ n + symM f then -1 else symR B n (symM f) (symM f) 1 (f &&& (63 : Int32) >>> (nI (symM f) &&& 31))) else f
/-- the symbol at a place, -1 if there is none -/
def symAt (B : List Nat) (n : Nat) : Int32 := symF B n (bAt B (nI n))
def I_sy1 (a n : Nat) (B : List Nat) (S : MM) (k : Nat) : KT := fun lo st S1 cs sl => k = 9 ∧ lo = [(0, .inr (.inr (some a))), (1, .inl (nI n)), (2, .inl (bAt B (nI n)))] ∧ st = [.inl (nI (symM (bAt B (nI n))))] ∧ 128 ≤ bAt B (nI n) ∧ S = S1 ∧ cs = 0 ∧ sl = 0
def I_sy2 (a n : Nat) (B : List Nat) (S : MM) (k : Nat) : KT := fun lo st S1 cs sl => ∃ kk m c, k ≤ 3 ∧ kk + k = m + 1 ∧ m ≤ 3 ∧ lo = [(5, .inl (nI kk)), (4, .inl c), (3, .inl (nI m)), (0, .inr (.inr (some a))), (1, .inl (nI n))] ∧ st = [] ∧ symAt B n = symR B n m k kk c ∧ S = S1 ∧ cs = 0 ∧ sl = 0
def T_sym : TR := fun Rc Rs av S cs sl K _Kx => match av with
  | [.inr (.inr a_o), .inl n_v] => pa a_o fun a => (∃ (n : Nat), n_v = nI n ∧ (∃ (d : Nat) (B : List Nat), (By S a d B ∧ n ≤ 1000000) ∧ cs ≤ Rc ∧ sl ≤ Rs ∧ (K (some (.inl (symAt B n))) S cs sl)))
  | _ => False
def sp_sym (a : Nat) (n : Nat) (d : Nat) (B : List Nat) : Sp := (fun av S => av = [.inr (.inr (some a)), .inl (nI n)] ∧ (By S a d B ∧ n ≤ 1000000), fun _ S => 0, fun _ S => 0, fun _ S rv S' => rv = (some (.inl (symAt B n))) ∧ S' = S, fun _ _ _ _ => False)
def tX1_symbolAt : CD := [(0, .aload_n 0), (1, .iload_n 1), (2, .invokevirtual 40), (5, .istore_n 2), (6, .iload_n 2), (7, .sipush 128), (10, .if_icmp .ge 5), (13, .iload_n 2), (14, .ireturn), (15, .iload_n 2), (16, .sipush 224), (19, .if_icmp .ge 7), (22, .iconst 1), (23, .goto 15), (26, .iload_n 2), (27, .sipush 240), (30, .if_icmp .ge 7), (33, .iconst 2), (34, .goto 4), (37, .iconst 3), (38, .istore_n 3), (39, .iload_n 2), (40, .sipush 192), (43, .if_icmp .lt 20), (46, .iload_n 2), (47, .sipush 247), (50, .if_icmp .gt 13), (53, .iload_n 1), (54, .iload_n 3), (55, .iadd), (56, .aload_n 0), (57, .getfield 15), (60, .if_icmp .lt 5), (63, .iconst (-1)), (64, .ireturn), (65, .iload_n 2), (66, .bipush 63), (68, .iload_n 3), (69, .ishr), (70, .iand), (71, .istore 4), (73, .iconst 1), (74, .istore 5), (76, .iload 5), (78, .iload_n 3), (79, .if_icmp .gt 46), (82, .aload_n 0), (83, .iload_n 1), (84, .iload 5), (86, .iadd), (87, .invokevirtual 40), (90, .istore 6), (92, .iload 6), (94, .sipush 192), (97, .iand), (98, .sipush 128), (101, .if_icmp .eq 5), (104, .iconst (-1)), (105, .ireturn), (106, .iload 4), (108, .bipush 6), (110, .ishl), (111, .iload 6), (113, .bipush 63), (115, .iand), (116, .ior), (117, .istore 4), (119, .iinc 5 1), (122, .goto (-46)), (125, .iload 4), (127, .invokestatic 54), (130, .ifCond .eq 19), (133, .iload 4), (135, .invokestatic 51), (138, .iload_n 3), (139, .iconst 1), (140, .iadd), (141, .if_icmp .ne 8), (144, .iload 4), (146, .goto 4), (149, .iconst (-1)), (150, .ireturn)]
set_option maxRecDepth 100000 in
theorem kX1_symbolAt : chk cX1_symbolAt tX1_symbolAt = true := by decide +kernel
theorem vX1_symbolAt_40 : ∀ w ∈ ([.methodLink RX1 40 yX1_get, .instanceMethod yX1_get, .selects yX1_get.cls yX1_get yX1_get, .initialized yX1_get.cls, .code yX1_get cX1_get 2 (some .int)] : List Cond), w ∈ lw_good := List.forall_mem_cons.mpr ⟨mgd 839 (by decide +kernel) (by decide +kernel), List.forall_mem_cons.mpr ⟨mgd 840 (by decide +kernel) (by decide +kernel), List.forall_mem_cons.mpr ⟨mgd 841 (by decide +kernel) (by decide +kernel), List.forall_mem_cons.mpr ⟨mgd 122 (by decide +kernel) (by decide +kernel), List.forall_mem_cons.mpr ⟨mgd 842 (by decide +kernel) (by decide +kernel), fun _ h => absurd h List.not_mem_nil⟩⟩⟩⟩⟩
theorem vX1_symbolAt_54 : ∀ w ∈ ([.methodLink RX1 54 yX1_isCharacter, .static yX1_isCharacter, .initialized yX1_isCharacter.cls, .code yX1_isCharacter cX1_isCharacter 1 (some .boolean)] : List Cond), w ∈ lw_good := List.forall_mem_cons.mpr ⟨mgd 843 (by decide +kernel) (by decide +kernel), List.forall_mem_cons.mpr ⟨mgd 844 (by decide +kernel) (by decide +kernel), List.forall_mem_cons.mpr ⟨mgd 122 (by decide +kernel) (by decide +kernel), List.forall_mem_cons.mpr ⟨mgd 845 (by decide +kernel) (by decide +kernel), fun _ h => absurd h List.not_mem_nil⟩⟩⟩⟩
theorem vX1_symbolAt_51 : ∀ w ∈ ([.methodLink RX1 51 yX1_widthOf, .static yX1_widthOf, .initialized yX1_widthOf.cls, .code yX1_widthOf cX1_widthOf 1 (some .int)] : List Cond), w ∈ lw_good := List.forall_mem_cons.mpr ⟨mgd 849 (by decide +kernel) (by decide +kernel), List.forall_mem_cons.mpr ⟨mgd 850 (by decide +kernel) (by decide +kernel), List.forall_mem_cons.mpr ⟨mgd 122 (by decide +kernel) (by decide +kernel), List.forall_mem_cons.mpr ⟨mgd 851 (by decide +kernel) (by decide +kernel), fun _ h => absurd h List.not_mem_nil⟩⟩⟩⟩
set_option maxRecDepth 100000 in
set_option maxHeartbeats 2000000 in
theorem c_sym (l : Launch) : ∀ (a : Nat) (n : Nat) (d : Nat) (B : List Nat), Ct l yX1_symbolAt cX1_symbolAt 7 (some .int) 1 21 (sp_sym a n d B) := by
  intro a n d B
  refine Ct.of (fX1, nX1, aX1, iX1, lX1, [(40, 0, 2, 1, T_bget), (54, 2, 1, 1, T_isch), (51, 2, 1, 1, T_wof)], qX1, gX1, []) false tX1_symbolAt (fun _ S => look [(38, ([0,1,2], I_sy1 a n B S)), (76, ([5,4,3,0,1], I_sy2 a n B S))]) (by decide) (by decide) kX1_symbolAt ⟨_, _, rfl⟩ fX1_ok nX1_ok aX1_ok iX1_ok lX1_ok (fun p e R s m args below meth c Q D cy z r A C hR1 hR2 => List.forall_mem_cons.mpr ⟨cOK_use (fun _ _ _ _ _ _ _ _ h => let ⟨sp, h1, h2, h3⟩ := u_bget l _ _ _ _ _ _ _ _ h; ⟨sp, cOK_V C h1 vX1_symbolAt_40 ⟨by decide, by decide, by decide +kernel⟩ ⟨by rw [hR1]; decide, by rw [hR2]; decide⟩ (k := 2) (T := TX1) (N := 3) rfl (by decide) h2, h3⟩), List.forall_mem_cons.mpr ⟨cOK_use (fun _ _ _ _ _ _ _ _ h => let ⟨sp, h1, _, h3⟩ := u_isch l _ _ _ _ _ _ _ _ h; ⟨sp, cOK_S C h1 vX1_symbolAt_54 ⟨by decide, by decide, by decide +kernel⟩ ⟨by rw [hR1]; decide, by rw [hR2]; decide⟩, h3⟩), List.forall_mem_cons.mpr ⟨cOK_use (fun _ _ _ _ _ _ _ _ h => let ⟨sp, h1, _, h3⟩ := u_wof l _ _ _ _ _ _ _ _ h; ⟨sp, cOK_S C h1 vX1_symbolAt_51 ⟨by decide, by decide, by decide +kernel⟩ ⟨by rw [hR1]; decide, by rw [hR2]; decide⟩, h3⟩), fun _ h => absurd h List.not_mem_nil⟩⟩⟩) qX1_ok gX1_ok rfl ?_ ?_
  · rintro _ S ⟨rfl, hp⟩
    refine ⟨Nat.le_of_ble_eq_true rfl, 300, ?_⟩
    show (0 = 0 ∧ (∃ (d_1 : Nat) (B_2 : List Nat), (By S a d_1 B_2) ∧ 0 ≤ 0 ∧ 0 ≤ 0 ∧ ((((128 : Int32) ≤ (bAt B_2 (nI n)) → (((224 : Int32) ≤ (bAt B_2 (nI n)) → (((240 : Int32) ≤ (bAt B_2 (nI n)) → (∃ k1, I_sy1 a n B S k1 [(0, .inr (.inr (some a))), (1, .inl (nI n)), (2, .inl (bAt B_2 (nI n)))] [.inl (3 : Int32)] S 0 0)) ∧ (¬ (240 : Int32) ≤ (bAt B_2 (nI n)) → (∃ k1, I_sy1 a n B S k1 [(0, .inr (.inr (some a))), (1, .inl (nI n)), (2, .inl (bAt B_2 (nI n)))] [.inl (2 : Int32)] S 0 0)))) ∧ (¬ (224 : Int32) ≤ (bAt B_2 (nI n)) → (∃ k1, I_sy1 a n B S k1 [(0, .inr (.inr (some a))), (1, .inl (nI n)), (2, .inl (bAt B_2 (nI n)))] [.inl (1 : Int32)] S 0 0)))) ∧ (¬ (128 : Int32) ≤ (bAt B_2 (nI n)) → (([] : List MV) = [] ∧ mret (some .int) (sp_sym a n d B) [.inr (.inr (some a)), .inl (nI n)] S (some (.inl (bAt B_2 (nI n)))) S 0 0))))))
    obtain ⟨hB, hn⟩ := hp
    refine ⟨rfl, d, B, hB, Nat.le_refl _, Nat.le_refl _, fun h1 => ⟨fun h2 => ⟨fun h3 => ⟨9, rfl, rfl, ?_, h1, rfl, rfl, rfl⟩, fun h3 => ⟨9, rfl, rfl, ?_, h1, rfl, rfl, rfl⟩⟩, fun h2 => ⟨9, rfl, rfl, ?_, h1, rfl, rfl, rfl⟩⟩, fun h1 => ⟨rfl, trivial, ⟨?_, rfl⟩, Nat.le_refl _, Nat.le_refl _⟩⟩
    · rw [symM, if_pos h2, if_pos h3]; rfl
    · rw [symM, if_pos h2, if_neg h3]; rfl
    · rw [symM, if_neg h2]; rfl
    · rw [symAt, symF, if_neg h1]
  · intro av S hpre pc I hI k lo st S1 cs sl h
    obtain ⟨rfl, hp⟩ := hpre
    have hm := look_in hI
    simp only [List.mem_cons, List.not_mem_nil, or_false] at hm
    rcases hm with hm | hm
    · cases hm
      obtain ⟨hB, hn⟩ := hp
      obtain ⟨rfl, rfl, rfl, h1, rfl, rfl, rfl⟩ := h
      refine ⟨300, ?_⟩
      show (((bAt B (nI n)) < (192 : Int32) → (([] : List MV) = [] ∧ mret (some .int) (sp_sym a n d B) [.inr (.inr (some a)), .inl (nI n)] S (some (.inl (-1 : Int32))) S 0 0)) ∧ (¬ (bAt B (nI n)) < (192 : Int32) → (((247 : Int32) < (bAt B (nI n)) → (([] : List MV) = [] ∧ mret (some .int) (sp_sym a n d B) [.inr (.inr (some a)), .inl (nI n)] S (some (.inl (-1 : Int32))) S 0 0)) ∧ (¬ (247 : Int32) < (bAt B (nI n)) → (isO S 2 a ∧ ((((nI n) + (nI (symM (bAt B (nI n))))) < (mI S 201 a) → (∃ k1, k1 < 9 ∧ I_sy2 a n B S k1 [(5, .inl (1 : Int32)), (4, .inl ((bAt B (nI n)) &&& ((63 : Int32) >>> ((nI (symM (bAt B (nI n)))) &&& 31)))), (3, .inl (nI (symM (bAt B (nI n))))), (0, .inr (.inr (some a))), (1, .inl (nI n))] [] S 0 0)) ∧ (¬ ((nI n) + (nI (symM (bAt B (nI n))))) < (mI S 201 a) → (([] : List MV) = [] ∧ mret (some .int) (sp_sym a n d B) [.inr (.inr (some a)), .inl (nI n)] S (some (.inl (-1 : Int32))) S 0 0))))))))
      have hl := hB.len
      have hm3 := symM_le (bAt B (nI n))
      have hbad : bAt B (nI n) < 192 ∨ 247 < bAt B (nI n) ∨ B.length ≤ n + symM (bAt B (nI n)) → symAt B n = -1 := fun q => by rw [symAt, symF, if_pos h1, if_pos q]
      refine ⟨fun h2 => ⟨rfl, trivial, ⟨by rw [hbad (Or.inl h2)], rfl⟩, Nat.le_refl _, Nat.le_refl _⟩, fun h2 => ⟨fun h3 => ⟨rfl, trivial, ⟨by rw [hbad (Or.inr (Or.inl h3))], rfl⟩, Nat.le_refl _, Nat.le_refl _⟩, fun h3 => ⟨hB.1, ?_⟩⟩⟩
      rw [nI_add, hB.2.2.2.1]
      refine if_lt (by omega) (by omega) (fun h4 => ⟨symM (bAt B (nI n)), by omega, 1, _, _, hm3, by omega, hm3, rfl, rfl, ?_, rfl, rfl, rfl⟩) (fun h4 => ⟨rfl, trivial, ⟨by rw [hbad (Or.inr (Or.inr h4))], rfl⟩, Nat.le_refl _, Nat.le_refl _⟩)
      rw [symAt, symF, if_pos h1, if_neg (fun q => q.elim h2 (fun q => q.elim h3 (fun q => by omega)))]
    · cases hm
      obtain ⟨hB, hn⟩ := hp
      obtain ⟨kk, m, c, hk3, hkm, hm3, rfl, rfl, he, rfl, rfl, rfl⟩ := h
      refine ⟨300, ?_⟩
      show (((nI m) < (nI kk) → (2 = 2 ∧ (True ∧ 0 ≤ 0 ∧ 0 ≤ 0 ∧ ((((isCh c) = 0 → (([] : List MV) = [] ∧ mret (some .int) (sp_sym a n d B) [.inr (.inr (some a)), .inl (nI n)] S (some (.inl (-1 : Int32))) S 0 0)) ∧ (¬ (isCh c) = 0 → (2 = 2 ∧ (True ∧ 0 ≤ 0 ∧ 0 ≤ 0 ∧ (((¬ (wOf c) = ((nI m) + (1 : Int32)) → (([] : List MV) = [] ∧ mret (some .int) (sp_sym a n d B) [.inr (.inr (some a)), .inl (nI n)] S (some (.inl (-1 : Int32))) S 0 0)) ∧ ((wOf c) = ((nI m) + (1 : Int32)) → (([] : List MV) = [] ∧ mret (some .int) (sp_sym a n d B) [.inr (.inr (some a)), .inl (nI n)] S (some (.inl c)) S 0 0)))))))))))) ∧ (¬ (nI m) < (nI kk) → (0 = 0 ∧ (∃ (d_3 : Nat) (B_4 : List Nat), (By S a d_3 B_4) ∧ 0 ≤ 0 ∧ 0 ≤ 0 ∧ (((((bAt B_4 ((nI n) + (nI kk))) &&& (192 : Int32)) = (128 : Int32) → (∃ k1, k1 < k ∧ I_sy2 a n B S k1 [(5, .inl ((nI kk) + (1 : Int32))), (4, .inl ((c <<< ((6 : Int32) &&& 31)) ||| ((bAt B_4 ((nI n) + (nI kk))) &&& (63 : Int32)))), (3, .inl (nI m)), (0, .inr (.inr (some a))), (1, .inl (nI n))] [] S 0 0)) ∧ (¬ ((bAt B_4 ((nI n) + (nI kk))) &&& (192 : Int32)) = (128 : Int32) → (([] : List MV) = [] ∧ mret (some .int) (sp_sym a n d B) [.inr (.inr (some a)), .inl (nI n)] S (some (.inl (-1 : Int32))) S 0 0))))))))
      refine if_lt (by omega) (by omega) (fun h1 => ?_) (fun h1 => ⟨rfl, d, B, hB, Nat.le_refl _, Nat.le_refl _, ?_⟩)
      · have hk0 : k = 0 := by omega
        subst hk0
        refine ⟨rfl, trivial, Nat.le_refl _, Nat.le_refl _, fun h2 => ⟨rfl, trivial, ⟨?_, rfl⟩, Nat.le_refl _, Nat.le_refl _⟩, fun h2 => ⟨rfl, trivial, Nat.le_refl _, Nat.le_refl _, fun h3 => ⟨rfl, trivial, ⟨?_, rfl⟩, Nat.le_refl _, Nat.le_refl _⟩, fun h3 => ⟨rfl, trivial, ⟨?_, rfl⟩, Nat.le_refl _, Nat.le_refl _⟩⟩⟩
        · rw [he]; show _ = some (Sum.inl (if isCh c = 0 then -1 else if wOf c = nI m + 1 then c else -1)); rw [if_pos h2]
        · rw [he]; show _ = some (Sum.inl (if isCh c = 0 then -1 else if wOf c = nI m + 1 then c else -1)); rw [if_neg h2, if_neg h3]
        · rw [he]; show _ = some (Sum.inl (if isCh c = 0 then -1 else if wOf c = nI m + 1 then c else -1)); rw [if_neg h2, if_pos h3]
      · obtain ⟨k, rfl⟩ : ∃ k', k = k' + 1 := ⟨k - 1, by omega⟩
        rw [nI_add, nI_1]
        refine ⟨fun h2 => ⟨k, by omega, kk + 1, m, _, by omega, by omega, hm3, rfl, rfl, ?_, rfl, rfl, rfl⟩, fun h2 => ⟨rfl, trivial, ⟨?_, rfl⟩, Nat.le_refl _, Nat.le_refl _⟩⟩
        · rw [he, symR, symGo, if_pos h2]; rfl
        · rw [he, symR, symGo, if_neg h2]
theorem u_sym (l : Launch) : Us l yX1_symbolAt cX1_symbolAt 7 (some .int) 1 21 2 T_sym := by
  intro Rc Rs av S cs sl K Kx h
  unfold T_sym at h
  split at h
  · rename_i a_o n_v
    obtain ⟨a, rfl, h_1⟩ := pa_of h
    obtain ⟨n, rfl, h_2⟩ := h_1
    obtain ⟨d, B, hp, hc, hs, hk⟩ := h_2
    refine ⟨(sp_sym a n d B), c_sym l a n d B, fun _ _ h9 => ⟨_, _, h9.1, h9.2.1.1⟩, ⟨rfl, hp⟩, hc, hs, fun v9 S' h8 => by
      obtain ⟨h7, h8⟩ := h8
      cases h7
      subst h8
      exact hk, fun _ _ q => q.elim⟩
  · exact h.elim
