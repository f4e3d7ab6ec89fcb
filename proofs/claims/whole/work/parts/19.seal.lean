/-! ===== Bytes.checksum, seal ===== -/
def crcStep (c x : Int32) : Int32 := ush (ush (c ^^^ x) 4 ^^^ mRem ((c ^^^ x) &&& 15).toNatClampNeg) 4 ^^^ mRem ((ush (c ^^^ x) 4 ^^^ mRem ((c ^^^ x) &&& 15).toNatClampNeg) &&& 15).toNatClampNeg
/-- the checksum's register behind n bytes -/
def crcN (B : List Nat) : Nat → Int32
  | 0 => -1
  | n + 1 => crcStep (crcN B n) (bAt B (nI n))
theorem in15 (x : Int32) : vp_in (x &&& 15) 16 := pk_andIn x (m := 15) 4 (by decide) (by decide)
def tX1_checksum : CD := [(0, .iconst (-1)), (1, .istore_n 2), (2, .iconst 0), (3, .istore_n 3), (4, .iload_n 3), (5, .iload_n 1), (6, .if_icmp .ge 43), (9, .iload_n 2), (10, .aload_n 0), (11, .iload_n 3), (12, .invokevirtual 40), (15, .ixor), (16, .istore_n 2), (17, .iload_n 2), (18, .iconst 4), (19, .iushr), (20, .getstatic 67), (23, .iload_n 2), (24, .bipush 15), (26, .iand), (27, .iaload), (28, .ixor), (29, .istore_n 2), (30, .iload_n 2), (31, .iconst 4), (32, .iushr), (33, .getstatic 67), (36, .iload_n 2), (37, .bipush 15), (39, .iand), (40, .iaload), (41, .ixor), (42, .istore_n 2), (43, .iinc 3 1), (46, .goto (-42)), (49, .iload_n 2), (50, .iconst (-1)), (51, .ixor), (52, .ireturn)]
set_option maxRecDepth 100000 in
theorem kX1_checksum : chk cX1_checksum tX1_checksum = true := by decide +kernel
def sp_checksum : Sp := sp0 (fun av S => ∃ a n d B, av = [.inr (.inr (some a)), .inl (nI n)] ∧ By S a d B ∧ n ≤ 32768) (fun av S r S' => S' = S ∧ ∀ a n d B, av = [.inr (.inr (some a)), .inl (nI n)] → n ≤ 32768 → By S a d B → r = some (.inl (crcN B n ^^^ -1)))
theorem recv_checksum : ∀ av S, sp_checksum.1 av S → ∃ a vs, av = .inr (.inr (some a)) :: vs ∧ isO S 2 a := fun _ _ ⟨a, n, _, _, e, h, _⟩ => ⟨a, [.inl (nI n)], e, h.1⟩
def I_crc (av : List MV) (S : MM) (k : Nat) : KT := fun lo st S1 cs sl => ∃ a n t d B, av = [.inr (.inr (some a)), .inl (nI n)] ∧ By S a d B ∧ n ≤ 32768 ∧ lo = [(3, .inl (nI t)), (2, .inl (crcN B t)), (0, .inr (.inr (some a))), (1, .inl (nI n))] ∧ st = [] ∧ S1 = S ∧ t ≤ n ∧ cs = 0 ∧ sl = 0 ∧ k = n - t
theorem wX1_checksum_40 : ∀ w ∈ ([.methodLink RX1 40 yX1_get, .instanceMethod yX1_get, .selects yX1_get.cls yX1_get yX1_get, .initialized yX1_get.cls, .code yX1_get cX1_get 2 (some .int)] : List Cond), w ∈ lw_good := List.forall_mem_cons.mpr ⟨mgd 839 (by decide +kernel) (by decide +kernel), List.forall_mem_cons.mpr ⟨mgd 840 (by decide +kernel) (by decide +kernel), List.forall_mem_cons.mpr ⟨mgd 841 (by decide +kernel) (by decide +kernel), List.forall_mem_cons.mpr ⟨mgd 122 (by decide +kernel) (by decide +kernel), List.forall_mem_cons.mpr ⟨mgd 842 (by decide +kernel) (by decide +kernel), fun _ h => absurd h List.not_mem_nil⟩⟩⟩⟩⟩
set_option maxRecDepth 100000 in
theorem c_X1_checksum (l : Launch) : Ct l yX1_checksum cX1_checksum 4 (some .int) 1 21 sp_checksum := by
  have c_get_l := c_X1_get l
  refine Ct.of (fX1, nX1, aX1, iX1, lX1, [(40, 0, 2, 1, Told 1 sp_get)], qX1, gX1, []) false tX1_checksum (fun av S => look [(4, ([3, 2, 0, 1], I_crc av S))]) (by decide) (by decide) kX1_checksum ⟨_, _, rfl⟩ fX1_ok nX1_ok aX1_ok iX1_ok lX1_ok (fun p e R s m args below meth c Q D cy z r A C hR1 hR2 => List.forall_mem_cons.mpr ⟨cOK_old (cOK_V C (c_get_l) wX1_checksum_40 ⟨by decide, by decide, by decide +kernel⟩ ⟨by rw [hR1]; decide, by rw [hR2]; decide⟩ (k := 2) (T := TX1) (N := 3) rfl (by decide) recv_get), fun _ h => absurd h List.not_mem_nil⟩) qX1_ok gX1_ok rfl ?_ ?_
  · rintro av S ⟨a, n, d, B, rfl, hB, hn⟩
    refine ⟨Nat.le_of_ble_eq_true rfl, 10, ?_⟩
    show (∃ k1, I_crc [.inr (.inr (some a)), .inl (nI n)] S k1 [(3, .inl (0 : Int32)), (2, .inl (-1 : Int32)), (0, .inr (.inr (some a))), (1, .inl (nI n))] [] S 0 0)
    exact ⟨_, a, n, 0, d, B, rfl, hB, hn, rfl, rfl, rfl, Nat.zero_le _, rfl, rfl, rfl⟩
  · intro av S hpre pc I hI k lo st S1 cs sl h
    have hm := look_in hI
    rw [List.mem_singleton] at hm
    cases hm
    obtain ⟨a, n, t, d, B, rfl, hB, hn, rfl, rfl, rfl, ht, rfl, rfl, rfl⟩ := h
    refine ⟨50, ?_⟩
    show (((nI n) ≤ (nI t) → (([] : List MV) = [] ∧ mret (some .int) sp_checksum [.inr (.inr (some a)), .inl (nI n)] S1 (some (.inl ((crcN B t) ^^^ (-1 : Int32)))) S1 0 0)) ∧ (¬ (nI n) ≤ (nI t) → (0 = 0 ∧ sp_get.1 [.inr (.inr (some a)), .inl (nI t)] S1 ∧ 0 ≤ 0 ∧ 0 ≤ 0 ∧ (∀ (x_2 : Int32) (S_1 : MM), sp_get.2.2.2.1 [.inr (.inr (some a)), .inl (nI t)] S1 (some (.inl x_2)) S_1 → (pa (some (mQ S_1).1) fun a_5 => ∃ v_6 : Int32, (isO S_1 17 a_5 ∧ inR S_1 a_5 (((crcN B t) ^^^ x_2) &&& (15 : Int32)) ∧ v_6 = eI S_1 a_5 (((crcN B t) ^^^ x_2) &&& (15 : Int32)).toNatClampNeg ∨ a_5 = (mQ S_1).1 ∧ vp_in (((crcN B t) ^^^ x_2) &&& (15 : Int32)) 16 ∧ v_6 = mRem (((crcN B t) ^^^ x_2) &&& (15 : Int32)).toNatClampNeg) ∧ (pa (some (mQ S_1).1) fun a_7 => ∃ v_8 : Int32, (isO S_1 17 a_7 ∧ inR S_1 a_7 ((((((crcN B t) ^^^ x_2).toUInt32 >>> ((4 : Int32).toUInt32 &&& Int32.toUInt32 31)).toInt32) ^^^ v_6) &&& (15 : Int32)) ∧ v_8 = eI S_1 a_7 ((((((crcN B t) ^^^ x_2).toUInt32 >>> ((4 : Int32).toUInt32 &&& Int32.toUInt32 31)).toInt32) ^^^ v_6) &&& (15 : Int32)).toNatClampNeg ∨ a_7 = (mQ S_1).1 ∧ vp_in ((((((crcN B t) ^^^ x_2).toUInt32 >>> ((4 : Int32).toUInt32 &&& Int32.toUInt32 31)).toInt32) ^^^ v_6) &&& (15 : Int32)) 16 ∧ v_8 = mRem ((((((crcN B t) ^^^ x_2).toUInt32 >>> ((4 : Int32).toUInt32 &&& Int32.toUInt32 31)).toInt32) ^^^ v_6) &&& (15 : Int32)).toNatClampNeg) ∧ (∃ k1, k1 < (n - t) ∧ I_crc [.inr (.inr (some a)), .inl (nI n)] S1 k1 [(3, .inl ((nI t) + (1 : Int32))), (2, .inl ((((((((crcN B t) ^^^ x_2).toUInt32 >>> ((4 : Int32).toUInt32 &&& Int32.toUInt32 31)).toInt32) ^^^ v_6).toUInt32 >>> ((4 : Int32).toUInt32 &&& Int32.toUInt32 31)).toInt32) ^^^ v_8)), (0, .inr (.inr (some a))), (1, .inl (nI n))] [] S_1 0 0)))) ∧ ∀ (E_4 : Nat) (S_3 : MM), False → False)))
    refine ⟨fun hge => ⟨rfl, ?_⟩, fun hlt => ⟨rfl, ⟨a, _, d, B, rfl, hB⟩, Nat.le_refl _, Nat.le_refl _, fun x S2 hp => ?_, fun _ _ q => q⟩⟩
    · have e1 : t = n := by
        have := (nI_leI (a := n) (b := t) (by omega) (by omega)).mp hge
        omega
      subst e1
      refine mret0 trivial ⟨rfl, fun a' n' d' B' e h1 h2 => ?_⟩
      have e3 : a' = a ∧ n' = t := by
        injection e with e4 e5
        injection e5 with e6 e7
        injection e6 with e8
        injection e4 with e9
        injection e9 with e10
        injection e10 with e11
        exact ⟨e11.symm, ((nI_eq (by omega) (by omega)).mp e8).symm⟩
      obtain ⟨rfl, rfl⟩ := e3
      rw [hB.uniq h2]
    · have hlt2 : t < n := Nat.lt_of_not_le fun q => hlt ((nI_leI (by omega) (by omega)).mpr q)
      obtain ⟨e1, e2⟩ := hp
      subst e1
      have e3 := e2 a _ d B rfl hB
      cases e3
      refine ⟨_, Or.inr ⟨rfl, in15 _, rfl⟩, _, Or.inr ⟨rfl, in15 _, rfl⟩, n - (t + 1), by omega, a, n, t + 1, d, B, rfl, hB, hn, ?_, rfl, rfl, hlt2, rfl, rfl, rfl⟩
      rw [nI_1]
      rfl
def tX1_seal : CD := [(0, .aload_n 0), (1, .aload_n 0), (2, .getfield 15), (5, .invokevirtual 64), (8, .istore_n 1), (9, .iconst 0), (10, .istore_n 2), (11, .iload_n 2), (12, .iconst 4), (13, .if_icmp .ge 19), (16, .aload_n 0), (17, .iload_n 1), (18, .bipush 8), (20, .iload_n 2), (21, .imul), (22, .iushr), (23, .invokevirtual 36), (26, .iinc 2 1), (29, .goto (-18)), (32, .return_)]
set_option maxRecDepth 100000 in
theorem kX1_seal : chk cX1_seal tX1_seal = true := by decide +kernel
/-- the four bytes of a number, the lowest first -/
def sealV (c : Int32) (n : Nat) : List Int32 := (List.range n).map (fun t => ush c (8 * nI t))
theorem sealV_len (c : Int32) (n : Nat) : (sealV c n).length = n := by unfold sealV; rw [List.length_map, List.length_range]
theorem sealV_succ (c : Int32) (n : Nat) : sealV c (n + 1) = sealV c n ++ [ush c (8 * nI n)] := by unfold sealV; rw [List.range_succ, List.map_append]; rfl
def crcOf (B : List Nat) : Int32 := crcN B B.length ^^^ -1
def sp_seal : Sp := spApp (fun av _ => ∃ o, av = [o]) (fun av S => match av with
    | [.inr (.inr (some a))] => sealV (crcOf (bytesOf S a)) 4
    | _ => [])
def I_seal (av : List MV) (S : MM) (k : Nat) : KT := fun lo st S1 cs sl => ∃ a t d B d1, av = [.inr (.inr (some a))] ∧ By S a d B ∧ lo = [(2, .inl (nI t)), (1, .inl (crcOf B)), (0, .inr (.inr (some a)))] ∧ st = [] ∧ t ≤ 4 ∧ App S S1 a d d1 B (sealV (crcOf B) t) ∧ cs = addNC t (mN S d) B.length ∧ sl = addNS t (mN S d) B.length ∧ k = 4 - t
theorem wX1_seal_64 : ∀ w ∈ ([.methodLink RX1 64 yX1_checksum, .instanceMethod yX1_checksum, .selects yX1_checksum.cls yX1_checksum yX1_checksum, .initialized yX1_checksum.cls, .code yX1_checksum cX1_checksum 4 (some .int)] : List Cond), w ∈ lw_good := List.forall_mem_cons.mpr ⟨mgd 1349 (by decide +kernel) (by decide +kernel), List.forall_mem_cons.mpr ⟨mgd 1351 (by decide +kernel) (by decide +kernel), List.forall_mem_cons.mpr ⟨mgd 24 (by decide +kernel) (by decide +kernel), List.forall_mem_cons.mpr ⟨mgd 122 (by decide +kernel) (by decide +kernel), List.forall_mem_cons.mpr ⟨mgd 1352 (by decide +kernel) (by decide +kernel), fun _ h => absurd h List.not_mem_nil⟩⟩⟩⟩⟩
theorem wX1_seal_36 : ∀ w ∈ ([.methodLink RX1 36 yX1_add, .instanceMethod yX1_add, .selects yX1_add.cls yX1_add yX1_add, .initialized yX1_add.cls, .code yX1_add cX1_add 2 none] : List Cond), w ∈ lw_good := List.forall_mem_cons.mpr ⟨mgd 771 (by decide +kernel) (by decide +kernel), List.forall_mem_cons.mpr ⟨mgd 772 (by decide +kernel) (by decide +kernel), List.forall_mem_cons.mpr ⟨mgd 773 (by decide +kernel) (by decide +kernel), List.forall_mem_cons.mpr ⟨mgd 122 (by decide +kernel) (by decide +kernel), List.forall_mem_cons.mpr ⟨mgd 774 (by decide +kernel) (by decide +kernel), fun _ h => absurd h List.not_mem_nil⟩⟩⟩⟩⟩
set_option maxRecDepth 100000 in
theorem c_X1_seal (l : Launch) : Ct l yX1_seal cX1_seal 3 none 3 75 sp_seal := by
  have c_add_l := c_X1_add l
  have c_ck_l := c_X1_checksum l
  refine Ct.of (fX1, nX1, aX1, iX1, lX1, [(64, 0, 2, 1, Told 1 sp_checksum), (36, 0, 2, 0, Told 0 sp_add)], qX1, gX1, []) false tX1_seal (fun av S => look [(11, ([2, 1, 0], I_seal av S))]) (by decide) (by decide) kX1_seal ⟨_, _, rfl⟩ fX1_ok nX1_ok aX1_ok iX1_ok lX1_ok (fun p e R s m args below meth c Q D cy z r A C hR1 hR2 => List.forall_mem_cons.mpr ⟨cOK_old (cOK_V C (c_ck_l) wX1_seal_64 ⟨by decide, by decide, by decide +kernel⟩ ⟨by rw [hR1]; decide, by rw [hR2]; decide⟩ (k := 2) (T := TX1) (N := 3) rfl (by decide) recv_checksum), List.forall_mem_cons.mpr ⟨cOK_old (cOK_V C (c_add_l) wX1_seal_36 ⟨by decide, by decide, by decide +kernel⟩ ⟨by rw [hR1]; decide, by rw [hR2]; decide⟩ (k := 2) (T := TX1) (N := 3) rfl (by decide) recv_add), fun _ h => absurd h List.not_mem_nil⟩⟩) qX1_ok gX1_ok rfl ?_ ?_
  · rintro av S ⟨⟨a, vs, d, B, rfl, hB⟩, o, e⟩
    cases e
    have hl := hB.len
    refine ⟨Nat.le_of_ble_eq_true rfl, 20, ?_⟩
    show (isO S 2 a ∧ (0 = 0 ∧ sp_checksum.1 [.inr (.inr (some a)), .inl (mI S 201 a)] S ∧ 0 ≤ sp_seal.2.1 [.inr (.inr (some a))] S ∧ 0 ≤ sp_seal.2.2.1 [.inr (.inr (some a))] S ∧ (∀ (x_2 : Int32) (S_1 : MM), sp_checksum.2.2.2.1 [.inr (.inr (some a)), .inl (mI S 201 a)] S (some (.inl x_2)) S_1 → (∃ k1, I_seal [.inr (.inr (some a))] S k1 [(2, .inl (0 : Int32)), (1, .inl x_2), (0, .inr (.inr (some a)))] [] S_1 0 0)) ∧ ∀ (E_4 : Nat) (S_3 : MM), False → False))
    rw [hB.2.2.2.1]
    refine ⟨hB.1, rfl, ⟨a, _, d, B, rfl, hB, hl⟩, Nat.zero_le _, Nat.zero_le _, fun x S1 hp => ?_, fun _ _ q => q⟩
    obtain ⟨e1, e2⟩ := hp
    subst e1
    cases e2 a _ d B rfl hl hB
    exact ⟨4, a, 0, d, B, d, rfl, hB, rfl, rfl, by decide, App.nil hB, rfl, rfl, rfl⟩
  · intro av S hpre pc I hI k lo st S1 cs sl h
    have hm := look_in hI
    rw [List.mem_singleton] at hm
    cases hm
    obtain ⟨a, t, d, B, d1, rfl, hB, rfl, rfl, ht, A, rfl, rfl, rfl⟩ := h
    have hl := hB.len
    refine ⟨40, ?_⟩
    show (((4 : Int32) ≤ (nI t) → (([] : List MV) = [] ∧ mret none sp_seal [.inr (.inr (some a))] S none S1 (addNC t (mN S d) B.length) (addNS t (mN S d) B.length))) ∧ (¬ (4 : Int32) ≤ (nI t) → (0 = 0 ∧ sp_add.1 [.inr (.inr (some a)), .inl (((crcOf B).toUInt32 >>> (((8 : Int32) * (nI t)).toUInt32 &&& Int32.toUInt32 31)).toInt32)] S1 ∧ addNC t (mN S d) B.length + sp_add.2.1 [.inr (.inr (some a)), .inl (((crcOf B).toUInt32 >>> (((8 : Int32) * (nI t)).toUInt32 &&& Int32.toUInt32 31)).toInt32)] S1 ≤ sp_seal.2.1 [.inr (.inr (some a))] S ∧ addNS t (mN S d) B.length + sp_add.2.2.1 [.inr (.inr (some a)), .inl (((crcOf B).toUInt32 >>> (((8 : Int32) * (nI t)).toUInt32 &&& Int32.toUInt32 31)).toInt32)] S1 ≤ sp_seal.2.2.1 [.inr (.inr (some a))] S ∧ (∀ (S_1 : MM), sp_add.2.2.2.1 [.inr (.inr (some a)), .inl (((crcOf B).toUInt32 >>> (((8 : Int32) * (nI t)).toUInt32 &&& Int32.toUInt32 31)).toInt32)] S1 none S_1 → (∃ k1, k1 < (4 - t) ∧ I_seal [.inr (.inr (some a))] S k1 [(2, .inl ((nI t) + (1 : Int32))), (1, .inl (crcOf B)), (0, .inr (.inr (some a)))] [] S_1 (addNC t (mN S d) B.length + sp_add.2.1 [.inr (.inr (some a)), .inl (((crcOf B).toUInt32 >>> (((8 : Int32) * (nI t)).toUInt32 &&& Int32.toUInt32 31)).toInt32)] S1) (addNS t (mN S d) B.length + sp_add.2.2.1 [.inr (.inr (some a)), .inl (((crcOf B).toUInt32 >>> (((8 : Int32) * (nI t)).toUInt32 &&& Int32.toUInt32 31)).toInt32)] S1))) ∧ ∀ (E_4 : Nat) (S_3 : MM), sp_add.2.2.2.2 [.inr (.inr (some a)), .inl (((crcOf B).toUInt32 >>> (((8 : Int32) * (nI t)).toUInt32 &&& Int32.toUInt32 31)).toInt32)] S1 E_4 S_3 → False)))
    have hv : sealV (crcOf (bytesOf S a)) 4 = sealV (crcOf B) 4 := by rw [hB.bytes]
    have hRC : sp_seal.2.1 [.inr (.inr (some a))] S = addNC 4 (mN S d) B.length := by
      show addNC (sealV (crcOf (bytesOf S a)) 4).length (capOf S a) (lenOf S a) = _
      rw [hv, sealV_len, hB.cap_of, hB.len_of]
    have hRS : sp_seal.2.2.1 [.inr (.inr (some a))] S = addNS 4 (mN S d) B.length := by
      show addNS (sealV (crcOf (bytesOf S a)) 4).length (capOf S a) (lenOf S a) = _
      rw [hv, sealV_len, hB.cap_of, hB.len_of]
    rw [hRC, hRS]
    have hc := A.cost hl
    rw [sealV_len] at hc
    refine ⟨fun hge => ⟨rfl, ?_⟩, fun hlt => ?_⟩
    · have e1 : t = 4 := by
        have := (nI_leI (a := 4) (b := t) (by decide) (by omega)).mp hge
        omega
      subst e1
      exact mretA hB A hv (by rw [sealV_len]; exact Nat.le_refl _) (by rw [sealV_len]; exact Nat.le_refl _)
    · have hlt2 : t < 4 := Nat.lt_of_not_le fun q => hlt ((nI_leI (a := 4) (b := t) (by decide) (by omega)).mpr q)
      refine ⟨rfl, ⟨a, _, d1, _, rfl, A.1⟩, Nat.le_trans (Nat.le_of_eq hc.1) (addNC_mono _ _ hlt2), Nat.le_trans (Nat.le_of_eq hc.2) (addNS_mono _ _ hlt2), fun S3 p3 => ?_, fun _ _ q => q⟩
      obtain ⟨d2, A2⟩ := A.snoc hl p3
      have A2 : App S S3 a d d2 B (sealV (crcOf B) t ++ [ush (crcOf B) (8 * nI t)]) := A2
      rw [← sealV_succ] at A2
      refine ⟨4 - (t + 1), by omega, a, t + 1, d, B, d2, rfl, hB, ?_, rfl, hlt2, A2, hc.1, hc.2, rfl⟩
      rw [nI_1]
