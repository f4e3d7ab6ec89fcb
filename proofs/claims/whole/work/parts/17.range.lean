/-! ===== Bytes.addRange ===== -/
/-- the bytes that an object holds, read off the memory -/
def bytesOf (S : MM) (a : Nat) : List Nat := match mR S 200 a with
  | some d => (List.range (lenOf S a)).map (fun j => b8 (eI S d j))
  | none => []
theorem By.bytes {S : MM} {a d : Nat} {B : List Nat} (h : By S a d B) : bytesOf S a = B := by
  have hl := h.len_of
  obtain ⟨h1, h2, h3, h4, h5, h6, h7, h8, h9⟩ := h
  unfold bytesOf
  rw [h2]
  dsimp only
  rw [hl]
  refine List.ext_getElem (by rw [List.length_map, List.length_range]) (fun j hj hj' => ?_)
  rw [List.getElem_map, List.getElem_range]
  have e := h9 j hj'
  rw [b8_and] at e
  have a2 : B.getD j 0 = B[j] := by simp [List.getD_eq_getElem?_getD, List.getElem?_eq_getElem hj']
  rw [a2] at e
  have b2 := h8 _ (List.getElem_mem hj')
  have b1 := b8_lt (eI S d j)
  exact (nI_eq (by omega) (by omega)).mp e
def rngV (F : List Nat) (i n : Nat) : List Int32 := (List.range n).map (fun t => bAt F (nI (i + t)))
theorem rngV_len (F : List Nat) (i n : Nat) : (rngV F i n).length = n := by unfold rngV; rw [List.length_map, List.length_range]
theorem rngV_succ (F : List Nat) (i n : Nat) : rngV F i (n + 1) = rngV F i n ++ [bAt F (nI (i + n))] := by unfold rngV; rw [List.range_succ, List.map_append]; rfl
def tX1_addRange : CD := [(0, .iload_n 2), (1, .istore 4), (3, .iload 4), (5, .iload_n 3), (6, .if_icmp .ge 19), (9, .aload_n 0), (10, .aload_n 1), (11, .iload 4), (13, .invokevirtual 40), (16, .invokevirtual 36), (19, .iinc 4 1), (22, .goto (-19)), (25, .return_)]
set_option maxRecDepth 100000 in
theorem kX1_addRange : chk cX1_addRange tX1_addRange = true := by decide +kernel
def sp_addRange : Sp := spApp (fun av S => ∃ a f i j d df B F, av = [.inr (.inr (some a)), .inr (.inr (some f)), .inl (nI i), .inl (nI j)] ∧ By S a d B ∧ By S f df F ∧ f ≠ a ∧ df ≠ d ∧ i ≤ 32768 ∧ j ≤ 32768) (fun av S => match av with
    | [_, .inr (.inr (some f)), .inl x, .inl y] => rngV (bytesOf S f) x.toNatClampNeg (y.toNatClampNeg - x.toNatClampNeg)
    | _ => [])
def I_rng (av : List MV) (S : MM) (k : Nat) : KT := fun lo st S1 cs sl => ∃ a f i j t d df B F d1, av = [.inr (.inr (some a)), .inr (.inr (some f)), .inl (nI i), .inl (nI j)] ∧ By S a d B ∧ By S f df F ∧ f ≠ a ∧ df ≠ d ∧ i ≤ 32768 ∧ j ≤ 32768 ∧ lo = [(4, .inl (nI (i + t))), (0, .inr (.inr (some a))), (1, .inr (.inr (some f))), (2, .inl (nI i)), (3, .inl (nI j))] ∧ st = [] ∧ t ≤ j - i ∧ App S S1 a d d1 B (rngV F i t) ∧ cs = addNC t (mN S d) B.length ∧ sl = addNS t (mN S d) B.length ∧ k = j - i - t
theorem wX1_addRange_40 : ∀ w ∈ ([.methodLink RX1 40 yX1_get, .instanceMethod yX1_get, .selects yX1_get.cls yX1_get yX1_get, .initialized yX1_get.cls, .code yX1_get cX1_get 2 (some .int)] : List Cond), w ∈ lw_good := List.forall_mem_cons.mpr ⟨mgd 839 (by decide +kernel) (by decide +kernel), List.forall_mem_cons.mpr ⟨mgd 840 (by decide +kernel) (by decide +kernel), List.forall_mem_cons.mpr ⟨mgd 841 (by decide +kernel) (by decide +kernel), List.forall_mem_cons.mpr ⟨mgd 122 (by decide +kernel) (by decide +kernel), List.forall_mem_cons.mpr ⟨mgd 842 (by decide +kernel) (by decide +kernel), fun _ h => absurd h List.not_mem_nil⟩⟩⟩⟩⟩
theorem wX1_addRange_36 : ∀ w ∈ ([.methodLink RX1 36 yX1_add, .instanceMethod yX1_add, .selects yX1_add.cls yX1_add yX1_add, .initialized yX1_add.cls, .code yX1_add cX1_add 2 none] : List Cond), w ∈ lw_good := List.forall_mem_cons.mpr ⟨mgd 771 (by decide +kernel) (by decide +kernel), List.forall_mem_cons.mpr ⟨mgd 772 (by decide +kernel) (by decide +kernel), List.forall_mem_cons.mpr ⟨mgd 773 (by decide +kernel) (by decide +kernel), List.forall_mem_cons.mpr ⟨mgd 122 (by decide +kernel) (by decide +kernel), List.forall_mem_cons.mpr ⟨mgd 774 (by decide +kernel) (by decide +kernel), fun _ h => absurd h List.not_mem_nil⟩⟩⟩⟩⟩
set_option maxRecDepth 100000 in
theorem c_X1_addRange (l : Launch) : Ct l yX1_addRange cX1_addRange 5 none 3 75 sp_addRange := by
  have c_add_l := c_X1_add l
  have c_get_l := c_X1_get l
  refine Ct.of (fX1, nX1, aX1, iX1, lX1, [(40, 0, 2, 1, Told 1 sp_get), (36, 0, 2, 0, Told 0 sp_add)], qX1, gX1, []) false tX1_addRange (fun av S => look [(3, ([4, 0, 1, 2, 3], I_rng av S))]) (by decide) (by decide) kX1_addRange ⟨_, _, rfl⟩ fX1_ok nX1_ok aX1_ok iX1_ok lX1_ok (fun p e R s m args below meth c Q D cy z r A C hR1 hR2 => List.forall_mem_cons.mpr ⟨cOK_old (cOK_V C (c_get_l) wX1_addRange_40 ⟨by decide, by decide, by decide +kernel⟩ ⟨by rw [hR1]; decide, by rw [hR2]; decide⟩ (k := 2) (T := TX1) (N := 3) rfl (by decide) recv_get), List.forall_mem_cons.mpr ⟨cOK_old (cOK_V C (c_add_l) wX1_addRange_36 ⟨by decide, by decide, by decide +kernel⟩ ⟨by rw [hR1]; decide, by rw [hR2]; decide⟩ (k := 2) (T := TX1) (N := 3) rfl (by decide) recv_add), fun _ h => absurd h List.not_mem_nil⟩⟩) qX1_ok gX1_ok rfl ?_ ?_
  · rintro av S ⟨⟨a0, vs, d0, B0, e0, hB0⟩, a, f, i, j, d, df, B, F, rfl, hB, hF, hfa, hdf, hi, hj⟩
    refine ⟨Nat.le_of_ble_eq_true rfl, 10, ?_⟩
    show (∃ k1, I_rng [.inr (.inr (some a)), .inr (.inr (some f)), .inl (nI i), .inl (nI j)] S k1 [(4, .inl (nI i)), (0, .inr (.inr (some a))), (1, .inr (.inr (some f))), (2, .inl (nI i)), (3, .inl (nI j))] [] S 0 0)
    exact ⟨_, a, f, i, j, 0, d, df, B, F, d, rfl, hB, hF, hfa, hdf, hi, hj, rfl, rfl, Nat.zero_le _, App.nil hB, rfl, rfl, rfl⟩
  · intro av S hpre pc I hI k lo st S1 cs sl h
    have hm := look_in hI
    rw [List.mem_singleton] at hm
    cases hm
    obtain ⟨a, f, i, j, t, d, df, B, F, d1, rfl, hB, hF, hfa, hdf, hi, hj, rfl, rfl, ht, A, rfl, rfl, rfl⟩ := h
    have hl := hB.len
    refine ⟨30, ?_⟩
    show (((nI j) ≤ (nI (i + t)) → (([] : List MV) = [] ∧ mret none sp_addRange [.inr (.inr (some a)), .inr (.inr (some f)), .inl (nI i), .inl (nI j)] S none S1 (addNC t (mN S d) B.length) (addNS t (mN S d) B.length))) ∧ (¬ (nI j) ≤ (nI (i + t)) → (0 = 0 ∧ sp_get.1 [.inr (.inr (some f)), .inl (nI (i + t))] S1 ∧ addNC t (mN S d) B.length ≤ sp_addRange.2.1 [.inr (.inr (some a)), .inr (.inr (some f)), .inl (nI i), .inl (nI j)] S ∧ addNS t (mN S d) B.length ≤ sp_addRange.2.2.1 [.inr (.inr (some a)), .inr (.inr (some f)), .inl (nI i), .inl (nI j)] S ∧ (∀ (x_2 : Int32) (S_1 : MM), sp_get.2.2.2.1 [.inr (.inr (some f)), .inl (nI (i + t))] S1 (some (.inl x_2)) S_1 → (0 = 0 ∧ sp_add.1 [.inr (.inr (some a)), .inl x_2] S_1 ∧ addNC t (mN S d) B.length + sp_add.2.1 [.inr (.inr (some a)), .inl x_2] S_1 ≤ sp_addRange.2.1 [.inr (.inr (some a)), .inr (.inr (some f)), .inl (nI i), .inl (nI j)] S ∧ addNS t (mN S d) B.length + sp_add.2.2.1 [.inr (.inr (some a)), .inl x_2] S_1 ≤ sp_addRange.2.2.1 [.inr (.inr (some a)), .inr (.inr (some f)), .inl (nI i), .inl (nI j)] S ∧ (∀ (S_5 : MM), sp_add.2.2.2.1 [.inr (.inr (some a)), .inl x_2] S_1 none S_5 → (∃ k1, k1 < (j - i - t) ∧ I_rng [.inr (.inr (some a)), .inr (.inr (some f)), .inl (nI i), .inl (nI j)] S k1 [(4, .inl ((nI (i + t)) + (1 : Int32))), (0, .inr (.inr (some a))), (1, .inr (.inr (some f))), (2, .inl (nI i)), (3, .inl (nI j))] [] S_5 (addNC t (mN S d) B.length + sp_add.2.1 [.inr (.inr (some a)), .inl x_2] S_1) (addNS t (mN S d) B.length + sp_add.2.2.1 [.inr (.inr (some a)), .inl x_2] S_1))) ∧ ∀ (E_8 : Nat) (S_7 : MM), sp_add.2.2.2.2 [.inr (.inr (some a)), .inl x_2] S_1 E_8 S_7 → False)) ∧ ∀ (E_4 : Nat) (S_3 : MM), False → False)))
    have hv : rngV (bytesOf S f) (nI i).toNatClampNeg ((nI j).toNatClampNeg - (nI i).toNatClampNeg) = rngV F i (j - i) := by rw [hF.bytes, nI_clamp (by omega), nI_clamp (by omega)]
    have hRC : sp_addRange.2.1 [.inr (.inr (some a)), .inr (.inr (some f)), .inl (nI i), .inl (nI j)] S = addNC (j - i) (mN S d) B.length := by
      show addNC (rngV (bytesOf S f) (nI i).toNatClampNeg ((nI j).toNatClampNeg - (nI i).toNatClampNeg)).length (capOf S a) (lenOf S a) = _
      rw [hv, rngV_len, hB.cap_of, hB.len_of]
    have hRS : sp_addRange.2.2.1 [.inr (.inr (some a)), .inr (.inr (some f)), .inl (nI i), .inl (nI j)] S = addNS (j - i) (mN S d) B.length := by
      show addNS (rngV (bytesOf S f) (nI i).toNatClampNeg ((nI j).toNatClampNeg - (nI i).toNatClampNeg)).length (capOf S a) (lenOf S a) = _
      rw [hv, rngV_len, hB.cap_of, hB.len_of]
    rw [hRC, hRS]
    have hF1 : By S1 f df F := hF.keep A.2.1 (fun q => q.elim hfa (isO_ne hF.1 hB.2.2.1 (by decide))) (fun q => q.elim (isO_ne hF.2.2.1 hB.1 (by decide)) hdf)
    refine ⟨fun hge => ⟨rfl, ?_⟩, fun hlt => ⟨rfl, ⟨f, _, df, F, rfl, hF1⟩, addNC_mono _ _ ht, addNS_mono _ _ ht, fun x S2 hp => ?_, fun _ _ q => q⟩⟩
    · have e1 : t = j - i := by
        have := (nI_leI (a := j) (b := i + t) (by omega) (by omega)).mp hge
        omega
      subst e1
      exact mretA hB A hv (by rw [rngV_len]; exact Nat.le_refl _) (by rw [rngV_len]; exact Nat.le_refl _)
    · have hlt2 : i + t < j := Nat.lt_of_not_le fun q => hlt ((nI_leI (by omega) (by omega)).mpr q)
      obtain ⟨e1, e2⟩ := hp
      subst e1
      have e3 := e2 f _ df F rfl hF1
      cases e3
      have hc := A.cost hl
      rw [rngV_len] at hc
      have m1 : addNC t (mN S d) B.length + sp_add.2.1 [.inr (.inr (some a)), .inl (bAt F (nI (i + t)))] S2 = addNC (t + 1) (mN S d) B.length := hc.1
      have m2 : addNS t (mN S d) B.length + sp_add.2.2.1 [.inr (.inr (some a)), .inl (bAt F (nI (i + t)))] S2 = addNS (t + 1) (mN S d) B.length := hc.2
      refine ⟨rfl, ⟨a, _, d1, _, rfl, A.1⟩, by rw [m1]; exact addNC_mono _ _ (by omega), by rw [m2]; exact addNS_mono _ _ (by omega), fun S3 p3 => ?_, fun _ _ q => q⟩
      obtain ⟨d2, A2⟩ := A.snoc hl p3
      rw [← rngV_succ] at A2
      refine ⟨j - i - (t + 1), by omega, a, f, i, j, t + 1, d, df, B, F, d2, rfl, hB, hF, hfa, hdf, hi, hj, ?_, rfl, by omega, A2, m1, m2, rfl⟩
      rw [nI_1]
      rfl
