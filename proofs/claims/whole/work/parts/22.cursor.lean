/-! ===== numbers and memory: small rows ===== -/
theorem or_nI {a b k : Nat} (ha : a < 2 ^ k) (h : a + b * 2 ^ k < 2 ^ 32) : nI a ||| nI (b * 2 ^ k) = nI (a + b * 2 ^ k) := by
  apply Int32.toBitVec_inj.mp
  apply BitVec.eq_of_toNat_eq
  rw [Int32.toBitVec_or, BitVec.toNat_or, pk_tn (by omega), pk_tn (by omega), pk_tn (by omega), Nat.or_comm, Nat.mul_comm, ← Nat.two_pow_add_eq_or_of_lt ha, Nat.add_comm]
theorem sI_sI {S : MM} {i a : Nat} {x y : Int32} : sI (sI S i a x) i a y = sI S i a y := by
  unfold sI
  have e : up2 (mI (mL S, mK S, up2 (mI S) i a x, mR S, mJ S, mN S, eI S, eJ S, eR S, mZ S, mQ S)) i a y = up2 (mI S) i a y := by
    funext j b
    show (if j = i ∧ b = a then y else if j = i ∧ b = a then x else mI S j b) = if j = i ∧ b = a then y else mI S j b
    split <;> rfl
  rw [e]
  rfl
theorem sI_id {S : MM} {i a : Nat} {x : Int32} (h : mI S i a = x) : sI S i a x = S := by
  have e : up2 (mI S) i a x = mI S := by
    funext j b
    show (if j = i ∧ b = a then x else mI S j b) = mI S j b
    split
    · rename_i h1
      rw [h1.1, h1.2, h]
    · rfl
  unfold sI
  rw [e]
  rfl
def oI (o : Option Nat) : Int32 := match o with
  | none => -1
  | some n => nI n
theorem bAt_nI {B : List Nat} {p : Nat} (hp : p < 2147483648) : bAt B (nI p) = nI (B.getD p 0) := by
  unfold bAt
  rw [if_neg (nI_pos hp), nI_clamp hp]
theorem getD_lt {B : List Nat} (h : ∀ b ∈ B, b < 256) (p : Nat) : B.getD p 0 < 256 := by
  rw [List.getD_eq_getElem?_getD]
  cases e : B[p]? with
  | none => decide
  | some x => exact h x (List.mem_of_getElem? e)
/-! ===== Bytes.addSymbol ===== -/
def utfL (m : Nat) : Int32 := if nI m = 1 then 192 else if nI m = 2 then 224 else 240
def utfT (c : Int32) : Nat → List Int32
  | 0 => []
  | k + 1 => (c >>> ((6 * nI k) &&& 31) &&& 63 ||| 128) :: utfT c k
/-- a symbol's bytes -/
def utfV (c : Int32) : List Int32 := if wN c = 1 then [c] else (c >>> ((6 * nI (wN c - 1)) &&& 31) ||| utfL (wN c - 1)) :: utfT c (wN c - 1)
theorem utfT_len (c : Int32) : ∀ k, (utfT c k).length = k
  | 0 => rfl
  | k + 1 => congrArg (· + 1) (utfT_len c k)
theorem utfV_len (c : Int32) : (utfV c).length = wN c := by
  have := wN_le c
  unfold utfV
  split
  · rename_i h; rw [h]; rfl
  · rw [List.length_cons, utfT_len]; omega
def I_as1 (a d : Nat) (c : Int32) (B : List Nat) (S : MM) (k : Nat) : KT := fun lo st S1 cs sl => k = 9 ∧ wN c ≠ 1 ∧ lo = [(2, .inl (nI (wN c - 1))), (0, .inr (.inr (some a))), (1, .inl c)] ∧ st = [.inl (utfL (wN c - 1)), .inl (c >>> ((6 * nI (wN c - 1)) &&& 31)), .inr (.inr (some a))] ∧ S = S1 ∧ cs = 0 ∧ sl = 0
def I_as2 (a d : Nat) (c : Int32) (B : List Nat) (S : MM) (k : Nat) : KT := fun lo st S1 cs sl => ∃ vs d1, k ≤ 3 ∧ utfV c = vs ++ utfT c k ∧ lo = [(3, .inl (nI k - 1)), (0, .inr (.inr (some a))), (1, .inl c)] ∧ st = [] ∧ App S S1 a d d1 B vs ∧ cs = addNC vs.length (mN S d) B.length ∧ sl = addNS vs.length (mN S d) B.length
def T_bsym : TR := fun Rc Rs av S cs sl K _Kx => match av with
  | [.inr (.inr a_o), .inl c] => pa a_o fun a => (∃ (d : Nat) (B : List Nat), (By S a d B) ∧ cs + (addNC (utfV c).length (mN S d) B.length) ≤ Rc ∧ sl + (addNS (utfV c).length (mN S d) B.length) ≤ Rs ∧ (∀ (S' : MM), (∃ d', App S S' a d d' B (utfV c)) → K none S' (cs + (addNC (utfV c).length (mN S d) B.length)) (sl + (addNS (utfV c).length (mN S d) B.length))))
  | _ => False
def sp_bsym (a : Nat) (c : Int32) (d : Nat) (B : List Nat) : Sp := (fun av S => av = [.inr (.inr (some a)), .inl c] ∧ (By S a d B), fun _ S => addNC (utfV c).length (mN S d) B.length, fun _ S => addNS (utfV c).length (mN S d) B.length, fun _ S rv S' => rv = none ∧ (∃ d', App S S' a d d' B (utfV c)), fun _ _ _ _ => False)
def tX1_addSymbol : CD := [(0, .iload_n 1), (1, .invokestatic 51), (4, .iconst 1), (5, .isub), (6, .istore_n 2), (7, .iload_n 2), (8, .ifCond .ne 9), (11, .aload_n 0), (12, .iload_n 1), (13, .invokevirtual 36), (16, .return_), (17, .aload_n 0), (18, .iload_n 1), (19, .bipush 6), (21, .iload_n 2), (22, .imul), (23, .ishr), (24, .iload_n 2), (25, .iconst 1), (26, .if_icmp .ne 9), (29, .sipush 192), (32, .goto 17), (35, .iload_n 2), (36, .iconst 2), (37, .if_icmp .ne 9), (40, .sipush 224), (43, .goto 6), (46, .sipush 240), (49, .ior), (50, .invokevirtual 36), (53, .iload_n 2), (54, .iconst 1), (55, .isub), (56, .istore_n 3), (57, .iload_n 3), (58, .ifCond .lt 26), (61, .aload_n 0), (62, .iload_n 1), (63, .bipush 6), (65, .iload_n 3), (66, .imul), (67, .ishr), (68, .bipush 63), (70, .iand), (71, .sipush 128), (74, .ior), (75, .invokevirtual 36), (78, .iinc 3 (-1)), (81, .goto (-24)), (84, .return_)]
set_option maxRecDepth 100000 in
theorem kX1_addSymbol : chk cX1_addSymbol tX1_addSymbol = true := by decide +kernel
theorem vX1_addSymbol_51 : ∀ w ∈ ([.methodLink RX1 51 yX1_widthOf, .static yX1_widthOf, .initialized yX1_widthOf.cls, .code yX1_widthOf cX1_widthOf 1 (some .int)] : List Cond), w ∈ lw_good := List.forall_mem_cons.mpr ⟨mgd 849 (by decide +kernel) (by decide +kernel), List.forall_mem_cons.mpr ⟨mgd 850 (by decide +kernel) (by decide +kernel), List.forall_mem_cons.mpr ⟨mgd 122 (by decide +kernel) (by decide +kernel), List.forall_mem_cons.mpr ⟨mgd 851 (by decide +kernel) (by decide +kernel), fun _ h => absurd h List.not_mem_nil⟩⟩⟩⟩
theorem vX1_addSymbol_36 : ∀ w ∈ ([.methodLink RX1 36 yX1_add, .instanceMethod yX1_add, .selects yX1_add.cls yX1_add yX1_add, .initialized yX1_add.cls, .code yX1_add cX1_add 2 none] : List Cond), w ∈ lw_good := List.forall_mem_cons.mpr ⟨mgd 771 (by decide +kernel) (by decide +kernel), List.forall_mem_cons.mpr ⟨mgd 772 (by decide +kernel) (by decide +kernel), List.forall_mem_cons.mpr ⟨mgd 773 (by decide +kernel) (by decide +kernel), List.forall_mem_cons.mpr ⟨mgd 122 (by decide +kernel) (by decide +kernel), List.forall_mem_cons.mpr ⟨mgd 774 (by decide +kernel) (by decide +kernel), fun _ h => absurd h List.not_mem_nil⟩⟩⟩⟩⟩
set_option maxRecDepth 100000 in
set_option maxHeartbeats 2000000 in
theorem c_bsym (l : Launch) : ∀ (a : Nat) (c : Int32) (d : Nat) (B : List Nat), Ct l yX1_addSymbol cX1_addSymbol 4 none 3 75 (sp_bsym a c d B) := by
  intro a c d B
  refine Ct.of (fX1, nX1, aX1, iX1, lX1, [(51, 2, 1, 1, T_wof), (36, 0, 2, 0, T_badd)], qX1, gX1, []) false tX1_addSymbol (fun _ S => look [(49, ([2,0,1], I_as1 a d c B S)), (57, ([3,0,1], I_as2 a d c B S))]) (by decide) (by decide) kX1_addSymbol ⟨_, _, rfl⟩ fX1_ok nX1_ok aX1_ok iX1_ok lX1_ok (fun p e R s m args below meth c Q D cy z r A C hR1 hR2 => List.forall_mem_cons.mpr ⟨cOK_use (fun _ _ _ _ _ _ _ _ h => let ⟨sp, h1, _, h3⟩ := u_wof l _ _ _ _ _ _ _ _ h; ⟨sp, cOK_S C h1 vX1_addSymbol_51 ⟨by decide, by decide, by decide +kernel⟩ ⟨by rw [hR1]; decide, by rw [hR2]; decide⟩, h3⟩), List.forall_mem_cons.mpr ⟨cOK_use (fun _ _ _ _ _ _ _ _ h => let ⟨sp, h1, h2, h3⟩ := u_badd l _ _ _ _ _ _ _ _ h; ⟨sp, cOK_V C h1 vX1_addSymbol_36 ⟨by decide, by decide, by decide +kernel⟩ ⟨by rw [hR1]; decide, by rw [hR2]; decide⟩ (k := 2) (T := TX1) (N := 3) rfl (by decide) h2, h3⟩), fun _ h => absurd h List.not_mem_nil⟩⟩) qX1_ok gX1_ok rfl ?_ ?_
  · rintro _ S ⟨rfl, hp⟩
    refine ⟨Nat.le_of_ble_eq_true rfl, 300, ?_⟩
    show (2 = 2 ∧ (True ∧ 0 ≤ addNC (utfV c).length (mN S d) B.length ∧ 0 ≤ addNS (utfV c).length (mN S d) B.length ∧ (((¬ ((wOf c) - (1 : Int32)) = 0 → ((¬ ((wOf c) - (1 : Int32)) = (1 : Int32) → ((¬ ((wOf c) - (1 : Int32)) = (2 : Int32) → (∃ k1, I_as1 a d c B S k1 [(2, .inl ((wOf c) - (1 : Int32))), (0, .inr (.inr (some a))), (1, .inl c)] [.inl (240 : Int32), .inl (c >>> (((6 : Int32) * ((wOf c) - (1 : Int32))) &&& 31)), .inr (.inr (some a))] S 0 0)) ∧ (((wOf c) - (1 : Int32)) = (2 : Int32) → (∃ k1, I_as1 a d c B S k1 [(2, .inl ((wOf c) - (1 : Int32))), (0, .inr (.inr (some a))), (1, .inl c)] [.inl (224 : Int32), .inl (c >>> (((6 : Int32) * ((wOf c) - (1 : Int32))) &&& 31)), .inr (.inr (some a))] S 0 0)))) ∧ (((wOf c) - (1 : Int32)) = (1 : Int32) → (∃ k1, I_as1 a d c B S k1 [(2, .inl ((wOf c) - (1 : Int32))), (0, .inr (.inr (some a))), (1, .inl c)] [.inl (192 : Int32), .inl (c >>> (((6 : Int32) * ((wOf c) - (1 : Int32))) &&& 31)), .inr (.inr (some a))] S 0 0)))) ∧ (((wOf c) - (1 : Int32)) = 0 → (0 = 0 ∧ (∃ (d_2 : Nat) (B_3 : List Nat), (By S a d_2 B_3) ∧ 0 + (addNC 1 (mN S d_2) B_3.length) ≤ addNC (utfV c).length (mN S d) B.length ∧ 0 + (addNS 1 (mN S d_2) B_3.length) ≤ addNS (utfV c).length (mN S d) B.length ∧ (∀ (S_4 : MM), (∃ d', App S S_4 a d_2 d' B_3 [c]) → (([] : List MV) = [] ∧ mret none (sp_bsym a c d B) [.inr (.inr (some a)), .inl c] S none S_4 (0 + (addNC 1 (mN S d_2) B_3.length)) (0 + (addNS 1 (mN S d_2) B_3.length)))))))))))
    have hw := wN_le c
    have hl := hp.len
    have e1 : wOf c - 1 = nI (wN c - 1) := by
      rw [wOf_N, show (1 : Int32) = nI 1 from rfl, pk_sub hw.1]
    rw [e1]
    have h0 : (0 : Int32) = nI 0 := rfl
    refine ⟨rfl, trivial, Nat.zero_le _, Nat.zero_le _, ?_⟩
    rw [h0]
    refine if_ne (by omega) (by decide) (fun h1 => ⟨fun h2 => ⟨fun h3 => ⟨9, rfl, by omega, rfl, ?_, rfl, rfl, rfl⟩, fun h3 => ⟨9, rfl, by omega, rfl, ?_, rfl, rfl, rfl⟩⟩, fun h2 => ⟨9, rfl, by omega, rfl, ?_, rfl, rfl, rfl⟩⟩) (fun h1 => ?_)
    · rw [utfL, if_neg h2, if_neg h3]
    · rw [utfL, if_neg h2, if_pos h3]
    · rw [utfL, if_pos h2]
    · have hv : utfV c = [c] := by rw [utfV, if_pos (by omega)]
      rw [hv]
      refine ⟨rfl, d, B, hp, Nat.le_of_eq (Nat.zero_add _), Nat.le_of_eq (Nat.zero_add _), fun S1 h2 => ⟨rfl, trivial, ⟨rfl, by rw [hv]; exact h2⟩, ?_, ?_⟩⟩
      · show 0 + _ ≤ addNC (utfV c).length _ _
        rw [hv]; exact Nat.le_of_eq (Nat.zero_add _)
      · show 0 + _ ≤ addNS (utfV c).length _ _
        rw [hv]; exact Nat.le_of_eq (Nat.zero_add _)
  · intro av S hpre pc I hI k lo st S1 cs sl h
    obtain ⟨rfl, hp⟩ := hpre
    have hm := look_in hI
    simp only [List.mem_cons, List.not_mem_nil, or_false] at hm
    rcases hm with hm | hm
    · cases hm
      obtain ⟨rfl, h1, rfl, rfl, rfl, rfl, rfl⟩ := h
      refine ⟨300, ?_⟩
      show (0 = 0 ∧ (∃ (d_1 : Nat) (B_2 : List Nat), (By S a d_1 B_2) ∧ 0 + (addNC 1 (mN S d_1) B_2.length) ≤ addNC (utfV c).length (mN S d) B.length ∧ 0 + (addNS 1 (mN S d_1) B_2.length) ≤ addNS (utfV c).length (mN S d) B.length ∧ (∀ (S_3 : MM), (∃ d', App S S_3 a d_1 d' B_2 [((c >>> ((6 * nI (wN c - 1)) &&& 31)) ||| (utfL (wN c - 1)))]) → (∃ k1, k1 < 9 ∧ I_as2 a d c B S k1 [(3, .inl ((nI (wN c - 1)) - (1 : Int32))), (0, .inr (.inr (some a))), (1, .inl c)] [] S_3 (0 + (addNC 1 (mN S d_1) B_2.length)) (0 + (addNS 1 (mN S d_1) B_2.length))))))
      have hw := wN_le c
      have hl := hp.len
      have hv : utfV c = [c >>> ((6 * nI (wN c - 1)) &&& 31) ||| utfL (wN c - 1)] ++ utfT c (wN c - 1) := by rw [utfV, if_neg h1]; rfl
      have hle : 1 ≤ (utfV c).length := by rw [utfV_len]; exact hw.1
      refine ⟨rfl, d, B, hp, by rw [Nat.zero_add]; exact addNC_mono _ _ hle, by rw [Nat.zero_add]; exact addNS_mono _ _ hle, fun S1 h2 => ?_⟩
      obtain ⟨d1, A1⟩ := h2
      exact ⟨wN c - 1, by omega, _, d1, by omega, hv, rfl, rfl, A1, Nat.zero_add _, Nat.zero_add _⟩
    · cases hm
      obtain ⟨vs, d1, hk, hv, rfl, rfl, A, rfl, rfl⟩ := h
      refine ⟨300, ?_⟩
      show (((nI k - 1) < 0 → (([] : List MV) = [] ∧ mret none (sp_bsym a c d B) [.inr (.inr (some a)), .inl c] S none S1 (addNC vs.length (mN S d) B.length) (addNS vs.length (mN S d) B.length))) ∧ (¬ (nI k - 1) < 0 → (0 = 0 ∧ (∃ (d_1 : Nat) (B_2 : List Nat), (By S1 a d_1 B_2) ∧ addNC vs.length (mN S d) B.length + (addNC 1 (mN S1 d_1) B_2.length) ≤ addNC (utfV c).length (mN S d) B.length ∧ addNS vs.length (mN S d) B.length + (addNS 1 (mN S1 d_1) B_2.length) ≤ addNS (utfV c).length (mN S d) B.length ∧ (∀ (S_3 : MM), (∃ d', App S1 S_3 a d_1 d' B_2 [(((c >>> (((6 : Int32) * (nI k - 1)) &&& 31)) &&& (63 : Int32)) ||| (128 : Int32))]) → (∃ k1, k1 < k ∧ I_as2 a d c B S k1 [(3, .inl ((nI k - 1) + (-1 : Int32))), (0, .inr (.inr (some a))), (1, .inl c)] [] S_3 (addNC vs.length (mN S d) B.length + (addNC 1 (mN S1 d_1) B_2.length)) (addNS vs.length (mN S d) B.length + (addNS 1 (mN S1 d_1) B_2.length))))))))
      have hl := hp.len
      cases k with
      | zero =>
        refine ⟨fun h2 => ⟨rfl, trivial, ⟨rfl, d1, ?_⟩, ?_, ?_⟩, fun h2 => absurd (by decide) h2⟩
        · rw [hv, utfT, List.append_nil]; exact A
        · show _ ≤ addNC (utfV c).length _ _
          rw [hv, utfT, List.append_nil]; exact Nat.le_refl _
        · show _ ≤ addNS (utfV c).length _ _
          rw [hv, utfT, List.append_nil]; exact Nat.le_refl _
      | succ k =>
        rw [nI_pred]
        have hc := A.cost hl
        have e1 : addNC 1 (mN S1 d1) (bPuts B vs).length = addC S1 a := by rw [show addNC 1 (mN S1 d1) (bPuts B vs).length = addNC 0 (mN S1 d1) (bPuts B vs).length + addC S1 a from ((App.nil A.1).cost A.1.len).1.symm]; exact Nat.zero_add _
        have e2 : addNS 1 (mN S1 d1) (bPuts B vs).length = addS S1 a := by rw [show addNS 1 (mN S1 d1) (bPuts B vs).length = addNS 0 (mN S1 d1) (bPuts B vs).length + addS S1 a from ((App.nil A.1).cost A.1.len).2.symm]; exact Nat.zero_add _
        have hle : vs.length + 1 ≤ (utfV c).length := by rw [hv, List.length_append, utfT_len]; omega
        refine ⟨fun h2 => absurd h2 (nI_pos (by omega)), fun h2 => ⟨rfl, d1, _, A.1, ?_, ?_, fun S2 h3 => ?_⟩⟩
        · rw [e1, hc.1]; exact addNC_mono _ _ hle
        · rw [e2, hc.2]; exact addNS_mono _ _ hle
        · obtain ⟨d2, A2⟩ := h3
          refine ⟨k, by omega, _, d2, by omega, ?_, ?_, rfl, A.app hl A2, ?_, ?_⟩
          · rw [hv, List.append_assoc]; rfl
          · rw [Int32.sub_eq_add_neg]
          · rw [e1, hc.1, List.length_append]; rfl
          · rw [e2, hc.2, List.length_append]; rfl
theorem u_bsym (l : Launch) : Us l yX1_addSymbol cX1_addSymbol 4 none 3 75 2 T_bsym := by
  intro Rc Rs av S cs sl K Kx h
  unfold T_bsym at h
  split at h
  · rename_i a_o c
    obtain ⟨a, rfl, h_1⟩ := pa_of h
    obtain ⟨d, B, hp, hc, hs, hk⟩ := h_1
    refine ⟨(sp_bsym a c d B), c_bsym l a c d B, fun _ _ h9 => ⟨_, _, h9.1, h9.2.1⟩, ⟨rfl, hp⟩, hc, hs, fun S' h8 => by
      obtain ⟨-, h8⟩ := h8
      exact hk _ h8, fun _ _ q => q.elim⟩
  · exact h.elim
/-! ===== Cursor ===== -/
/-- the cursor c stands at p in the source s, and ends at q -/
def Cu (S : MM) (c s p q : Nat) : Prop := isO S 3 c ∧ mR S 300 c = some s ∧ mI S 301 c = nI p ∧ mI S 302 c = nI q ∧ p ≤ q ∧ q ≤ 32768
theorem Cu.keep {P : Nat → Prop} {S S' : MM} {c s p q : Nat} (h : Cu S c s p q) (hk : Keep P S S') (hc : ¬ P c) : Cu S' c s p q := by
  obtain ⟨h1, h2, h3, h4, h5⟩ := h
  obtain ⟨k1, k2, -, -, -, -⟩ := hk.2.1 c h1.1 hc
  exact ⟨hk.isO h1, by rw [k2]; exact h2, by rw [k1]; exact h3, by rw [k1]; exact h4, h5⟩
def T_copn : TR := fun Rc Rs av S cs sl K _Kx => match av with
  | [.inr (.inr c_o), .inr (.inr s), .inl x, .inl y] => pa c_o fun c => ((isO S 3 c) ∧ cs ≤ Rc ∧ sl ≤ Rs ∧ (K none (sI (sI (sR S 300 c s) 301 c x) 302 c y) cs sl))
  | _ => False
def sp_copn (c : Nat) (s : Option Nat) (x : Int32) (y : Int32)  : Sp := (fun av S => av = [.inr (.inr (some c)), .inr (.inr s), .inl x, .inl y] ∧ (isO S 3 c), fun _ S => 0, fun _ S => 0, fun _ S rv S' => rv = none ∧ S' = sI (sI (sR S 300 c s) 301 c x) 302 c y, fun _ _ _ _ => False)
def tX2_open : CD := [(0, .aload_n 0), (1, .aload_n 1), (2, .putfield 9), (5, .aload_n 0), (6, .iload_n 2), (7, .putfield 15), (10, .aload_n 0), (11, .iload_n 3), (12, .putfield 19), (15, .return_)]
set_option maxRecDepth 100000 in
theorem kX2_open : chk cX2_open tX2_open = true := by decide +kernel

set_option maxRecDepth 100000 in
set_option maxHeartbeats 2000000 in
theorem c_copn (l : Launch) : ∀ (c : Nat) (s : Option Nat) (x : Int32) (y : Int32), Ct l yX2_open cX2_open 4 none 0 0 (sp_copn c s x y) := by
  intro c s x y
  refine Ct.of (fX2, nX2, aX2, iX2, lX2, [], qX2, gX2, []) false tX2_open (fun _ _ _ => none) (by decide) (by decide) kX2_open ⟨_, _, rfl⟩ fX2_ok nX2_ok aX2_ok iX2_ok lX2_ok (fun _ _ _ _ _ _ _ _ _ _ _ _ _ _ _ _ _ _ => no_all) qX2_ok gX2_ok rfl ?_ ?_
  · rintro _ S ⟨rfl, hp⟩
    refine ⟨Nat.le_of_ble_eq_true rfl, 300, ?_⟩
    show (True ∧ (isO S 3 c ∧ (True ∧ (isO (sR S 300 c s) 3 c ∧ (True ∧ (isO (sI (sR S 300 c s) 301 c x) 3 c ∧ (([] : List MV) = [] ∧ mret none (sp_copn c s x y) [.inr (.inr (some c)), .inr (.inr s), .inl x, .inl y] S none (sI (sI (sR S 300 c s) 301 c x) 302 c y) 0 0)))))))
    exact ⟨trivial, hp, trivial, hp, trivial, hp, rfl, trivial, ⟨rfl, rfl⟩, Nat.le_refl _, Nat.le_refl _⟩
  · exact fun _ _ _ _ _ h => by cases h
theorem u_copn (l : Launch) : Us l yX2_open cX2_open 4 none 0 0 3 T_copn := by
  intro Rc Rs av S cs sl K Kx h
  unfold T_copn at h
  split at h
  · rename_i c_o s x y
    obtain ⟨c, rfl, h_1⟩ := pa_of h
    obtain ⟨hp, hc, hs, hk⟩ := h_1
    refine ⟨(sp_copn c s x y), c_copn l c s x y, fun _ _ h9 => ⟨_, _, h9.1, h9.2⟩, ⟨rfl, hp⟩, hc, hs, fun S' h8 => by
      obtain ⟨-, h8⟩ := h8
      subst h8
      exact hk, fun _ _ q => q.elim⟩
  · exact h.elim
theorem Cu.opn {S : MM} {c s p q : Nat} (h : isO S 3 c) (h1 : p ≤ q) (h2 : q ≤ 32768) : Cu (sI (sI (sR S 300 c (some s)) 301 c (nI p)) 302 c (nI q)) c s p q := by
  refine ⟨h, ?_, ?_, ?_, h1, h2⟩ <;> simp [mL_sI, mL_sR, mL_sJ, mL_rI, mL_rJ, mL_rR, mK_sI, mK_sR, mK_sJ, mK_rI, mK_rJ, mK_rR, mI_sR, mI_sJ, mI_rI, mI_rJ, mI_rR, mR_sI, mR_sJ, mR_rI, mR_rJ, mR_rR, mJ_sI, mJ_sR, mJ_rI, mJ_rJ, mJ_rR, mN_sI, mN_sR, mN_sJ, mN_rI, mN_rJ, mN_rR, eI_sI, eI_sR, eI_sJ, eI_rJ, eI_rR, eJ_sI, eJ_sR, eJ_sJ, eJ_rI, eJ_rR, eR_sI, eR_sR, eR_sJ, eR_rI, eR_rJ, mZ_sI, mZ_sR, mZ_sJ, mZ_rI, mZ_rJ, mZ_rR, mQ_sI, mQ_sR, mQ_sJ, mQ_rI, mQ_rJ, mQ_rR, mI_nA, mR_nA, mJ_nA, mZ_nA, mQ_nA, mN_nO, eI_nO, eJ_nO, eR_nO, mZ_nO, mQ_nO, mI_sI, mR_sR, mJ_sJ, eI_rI, eR_rR, eJ_rJ, eI_nA, mN_nA, mK_nA, mK_nO, mI_nO, mR_nO]
def T_cdone : TR := fun Rc Rs av S cs sl K _Kx => match av with
  | [.inr (.inr c_o)] => pa c_o fun c => (∃ (s p q : Nat), (Cu S c s p q) ∧ cs ≤ Rc ∧ sl ≤ Rs ∧ (K (some (.inl (tf (q ≤ p)))) S cs sl))
  | _ => False
def sp_cdone (c : Nat) (s p q : Nat) : Sp := (fun av S => av = [.inr (.inr (some c))] ∧ (Cu S c s p q), fun _ S => 0, fun _ S => 0, fun _ S rv S' => rv = (some (.inl (tf (q ≤ p)))) ∧ S' = S, fun _ _ _ _ => False)
def tX2_isDone : CD := [(0, .aload_n 0), (1, .getfield 15), (4, .aload_n 0), (5, .getfield 19), (8, .if_icmp .lt 7), (11, .iconst 1), (12, .goto 4), (15, .iconst 0), (16, .ireturn)]
set_option maxRecDepth 100000 in
theorem kX2_isDone : chk cX2_isDone tX2_isDone = true := by decide +kernel

set_option maxRecDepth 100000 in
set_option maxHeartbeats 2000000 in
theorem c_cdone (l : Launch) : ∀ (c : Nat) (s p q : Nat), Ct l yX2_isDone cX2_isDone 1 (some .boolean) 0 0 (sp_cdone c s p q) := by
  intro c s p q
  refine Ct.of (fX2, nX2, aX2, iX2, lX2, [], qX2, gX2, []) false tX2_isDone (fun _ _ _ => none) (by decide) (by decide) kX2_isDone ⟨_, _, rfl⟩ fX2_ok nX2_ok aX2_ok iX2_ok lX2_ok (fun _ _ _ _ _ _ _ _ _ _ _ _ _ _ _ _ _ _ => no_all) qX2_ok gX2_ok rfl ?_ ?_
  · rintro _ S ⟨rfl, hp⟩
    refine ⟨Nat.le_of_ble_eq_true rfl, 300, ?_⟩
    show (isO S 3 c ∧ (isO S 3 c ∧ (((mI S 301 c) < (mI S 302 c) → (([] : List MV) = [] ∧ mret (some .boolean) (sp_cdone c s p q) [.inr (.inr (some c))] S (some (.inl (0 : Int32))) S 0 0)) ∧ (¬ (mI S 301 c) < (mI S 302 c) → (([] : List MV) = [] ∧ mret (some .boolean) (sp_cdone c s p q) [.inr (.inr (some c))] S (some (.inl (1 : Int32))) S 0 0)))))
    obtain ⟨h1, h2, h3, h4, h5, h6⟩ := hp
    rw [h3, h4]
    exact ⟨h1, h1, if_lt (by omega) (by omega) (fun h => ⟨rfl, Or.inl rfl, ⟨ret_f (by omega) rfl, rfl⟩, Nat.le_refl _, Nat.le_refl _⟩) (fun h => ⟨rfl, Or.inr rfl, ⟨ret_t h rfl, rfl⟩, Nat.le_refl _, Nat.le_refl _⟩)⟩
  · exact fun _ _ _ _ _ h => by cases h
theorem u_cdone (l : Launch) : Us l yX2_isDone cX2_isDone 1 (some .boolean) 0 0 3 T_cdone := by
  intro Rc Rs av S cs sl K Kx h
  unfold T_cdone at h
  split at h
  · rename_i c_o
    obtain ⟨c, rfl, h_1⟩ := pa_of h
    obtain ⟨s, p, q, hp, hc, hs, hk⟩ := h_1
    refine ⟨(sp_cdone c s p q), c_cdone l c s p q, fun _ _ h9 => ⟨_, _, h9.1, h9.2.1⟩, ⟨rfl, hp⟩, hc, hs, fun v9 S' h8 => by
      obtain ⟨h7, h8⟩ := h8
      cases h7
      subst h8
      exact hk, fun _ _ q => q.elim⟩
  · exact h.elim
/-- a number of seven bits a byte: its value, and the place behind it -/
def vrd (B : List Nat) (q : Nat) : Nat → Nat → Nat → Nat → Option Nat × Nat
  | 0, p, _, _ => (none, p)
  | t + 1, p, k, w => if p < q then (if k = 4 ∧ 7 < B.getD p 0 then (none, p + 1) else if 128 ≤ B.getD p 0 then vrd B q t (p + 1) (k + 1) (w + (B.getD p 0 - 128) * 2 ^ (7 * k)) else if B.getD p 0 = 0 ∧ 0 < k then (none, p + 1) else (some (w + B.getD p 0 * 2 ^ (7 * k)), p + 1)) else (none, p)
def vint (B : List Nat) (q p : Nat) : Option Nat × Nat := vrd B q 5 p 0 0
theorem vrd_le {B : List Nat} {q : Nat} : ∀ {t p k w : Nat}, p ≤ q → p ≤ (vrd B q t p k w).2 ∧ (vrd B q t p k w).2 ≤ q
  | 0, p, k, w, h => ⟨Nat.le_refl _, h⟩
  | t + 1, p, k, w, h => by
    rw [vrd]
    split
    · split
      · exact ⟨Nat.le_succ _, by omega⟩
      · split
        · have := vrd_le (B := B) (q := q) (t := t) (p := p + 1) (k := k + 1) (w := w + (B.getD p 0 - 128) * 2 ^ (7 * k)) (by omega)
          omega
        · split
          · exact ⟨Nat.le_succ _, by omega⟩
          · exact ⟨Nat.le_succ _, by omega⟩
    · exact ⟨Nat.le_refl _, h⟩
theorem vrd_lt {B : List Nat} {q : Nat} (hB : ∀ b ∈ B, b < 256) : ∀ {t p k w n : Nat}, t + k = 5 → w < 2 ^ (7 * k) → (vrd B q t p k w).1 = some n → n < 2147483648
  | 0, p, k, w, n, _, _, h => by cases h
  | t + 1, p, k, w, n, hk, hw, h => by
    rw [vrd] at h
    have hb := getD_lt hB p
    have hp2 : 2 ^ (7 * (k + 1)) = 2 ^ (7 * k) * 128 := by rw [Nat.mul_add, Nat.pow_add]
    split at h
    · split at h
      · cases h
      · rename_i h4
        split at h
        · refine vrd_lt hB (by omega) ?_ h
          rw [hp2]
          have : (B.getD p 0 - 128) * 2 ^ (7 * k) ≤ 127 * 2 ^ (7 * k) := Nat.mul_le_mul_right _ (by omega)
          omega
        · split at h
          · cases h
          · cases h
            have h9 : k ≤ 4 := by omega
            rcases Nat.lt_or_ge k 4 with z | z
            · have : 2 ^ (7 * k) ≤ 2 ^ 21 := Nat.pow_le_pow_right (by decide) (by omega)
              have h3 : B.getD p 0 * 2 ^ (7 * k) ≤ 127 * 2 ^ (7 * k) := Nat.mul_le_mul_right _ (by omega)
              omega
            · have : k = 4 := by omega
              subst this
              have h3 : B.getD p 0 ≤ 7 := by omega
              have h5 : B.getD p 0 * 2 ^ (7 * 4) ≤ 7 * 2 ^ (7 * 4) := Nat.mul_le_mul_right _ h3
              omega
    · cases h
theorem vint_le {B : List Nat} {q p : Nat} (h : p ≤ q) : p ≤ (vint B q p).2 ∧ (vint B q p).2 ≤ q := vrd_le h
theorem vint_lt {B : List Nat} {q p n : Nat} (hB : ∀ b ∈ B, b < 256) (h : (vint B q p).1 = some n) : n < 2147483648 := vrd_lt hB rfl (by decide) h
theorem By.bytesLt {S : MM} {a d : Nat} {B : List Nat} (h : By S a d B) : ∀ b ∈ B, b < 256 := h.2.2.2.2.2.2.2.1
def I_cv (c s d p q : Nat) (B : List Nat) (S : MM) (k : Nat) : KT := fun lo st S1 cs sl => ∃ i j p1 w, k = 2 * j ∧ i + j = 5 ∧ p1 ≤ q ∧ w < 2 ^ (7 * i) ∧ lo = [(1, .inl (nI w)), (2, .inl (nI i)), (0, .inr (.inr (some c)))] ∧ st = [] ∧ S1 = sI S 301 c (nI p1) ∧ cs = 0 ∧ sl = 0 ∧ vint B q p = vrd B q j p1 i w
def I_cv2 (c s d p q : Nat) (B : List Nat) (S : MM) (k : Nat) : KT := fun lo st S1 cs sl => ∃ i j p1 w o, k = 2 * j + 1 ∧ i + j = 4 ∧ p1 ≤ q ∧ w < 2 ^ (7 * i) ∧ o < 256 ∧ (i = 4 → o ≤ 7) ∧ lo = [(1, .inl (nI w)), (3, .inl (nI o)), (2, .inl (nI i)), (0, .inr (.inr (some c)))] ∧ st = [] ∧ S1 = sI S 301 c (nI p1) ∧ cs = 0 ∧ sl = 0 ∧ vint B q p = (if 128 ≤ o then vrd B q j p1 (i + 1) (w + (o - 128) * 2 ^ (7 * i)) else if o = 0 ∧ 0 < i then (none, p1) else (some (w + o * 2 ^ (7 * i)), p1))
theorem shv {o i : Nat} (ho : o < 256) (hi : i ≤ 4) (h4 : i = 4 → o ≤ 7) {w : Nat} (hw : w < 2 ^ (7 * i)) : nI w ||| ((nI o &&& 127) <<< (((7 : Int32) * nI i) &&& 31)) = nI (w + (o % 128) * 2 ^ (7 * i)) ∧ w + (o % 128) * 2 ^ (7 * i) < 2 ^ (7 * (i + 1)) ∧ w + (o % 128) * 2 ^ (7 * i) < 2147483648 := by
  have h1 : nI o &&& 127 = nI (o % 128) := pk_andN (by omega) 7 (by decide)
  have hp2 : 2 ^ (7 * (i + 1)) = 2 ^ (7 * i) * 128 := by rw [Nat.mul_add, Nat.pow_add]
  have hb : (o % 128) * 2 ^ (7 * i) ≤ 127 * 2 ^ (7 * i) := Nat.mul_le_mul_right _ (by omega)
  have hlt : w + (o % 128) * 2 ^ (7 * i) < 2147483648 := by
    rcases Nat.lt_or_ge i 4 with z | z
    · have : 2 ^ (7 * i) ≤ 2 ^ 21 := Nat.pow_le_pow_right (by decide) (by omega)
      omega
    · have : i = 4 := by omega
      subst this
      have h5 : (o % 128) * 2 ^ (7 * 4) ≤ 7 * 2 ^ (7 * 4) := Nat.mul_le_mul_right _ (by have := h4 rfl; omega)
      omega
  have h2 : nI (o % 128) <<< (((7 : Int32) * nI i) &&& 31) = nI ((o % 128) * 2 ^ (7 * i)) := by
    refine pk_shlN _ (7 * i) ?_ (by omega)
    have : i = 0 ∨ i = 1 ∨ i = 2 ∨ i = 3 ∨ i = 4 := by omega
    rcases this with rfl | rfl | rfl | rfl | rfl <;> decide
  rw [h1, h2]
  exact ⟨or_nI hw (by omega), by omega, hlt⟩
def T_cvar : TR := fun Rc Rs av S cs sl K _Kx => match av with
  | [.inr (.inr c_o)] => pa c_o fun c => (∃ (s d p q : Nat) (B : List Nat), (Cu S c s p q ∧ By S s d B) ∧ cs ≤ Rc ∧ sl ≤ Rs ∧ (K (some (.inl (oI (vint B q p).1))) (sI S 301 c (nI (vint B q p).2)) cs sl))
  | _ => False
def sp_cvar (c : Nat) (s d p q : Nat) (B : List Nat) : Sp := (fun av S => av = [.inr (.inr (some c))] ∧ (Cu S c s p q ∧ By S s d B), fun _ S => 0, fun _ S => 0, fun _ S rv S' => rv = (some (.inl (oI (vint B q p).1))) ∧ S' = sI S 301 c (nI (vint B q p).2), fun _ _ _ _ => False)
def tX2_varint : CD := [(0, .iconst 0), (1, .istore_n 1), (2, .iconst 0), (3, .istore_n 2), (4, .iload_n 2), (5, .iconst 5), (6, .if_icmp .ge 88), (9, .aload_n 0), (10, .getfield 15), (13, .aload_n 0), (14, .getfield 19), (17, .if_icmp .ge 77), (20, .aload_n 0), (21, .getfield 9), (24, .aload_n 0), (25, .getfield 15), (28, .invokevirtual 22), (31, .istore_n 3), (32, .aload_n 0), (33, .dup), (34, .getfield 15), (37, .iconst 1), (38, .iadd), (39, .putfield 15), (42, .iload_n 2), (43, .iconst 4), (44, .if_icmp .ne 11), (47, .iload_n 3), (48, .bipush 7), (50, .if_icmp .le 5), (53, .iconst (-1)), (54, .ireturn), (55, .iload_n 1), (56, .iload_n 3), (57, .bipush 127), (59, .iand), (60, .bipush 7), (62, .iload_n 2), (63, .imul), (64, .ishl), (65, .ior), (66, .istore_n 1), (67, .iload_n 3), (68, .sipush 128), (71, .if_icmp .ge 17), (74, .iload_n 3), (75, .ifCond .ne 11), (78, .iload_n 2), (79, .ifCond .le 7), (82, .iconst (-1)), (83, .goto 4), (86, .iload_n 1), (87, .ireturn), (88, .iinc 2 1), (91, .goto (-87)), (94, .iconst (-1)), (95, .ireturn)]
set_option maxRecDepth 100000 in
theorem kX2_varint : chk cX2_varint tX2_varint = true := by decide +kernel
theorem vX2_varint_22 : ∀ w ∈ ([.methodLink RX2 22 yX1_get, .instanceMethod yX1_get, .selects yX1_get.cls yX1_get yX1_get, .initialized yX1_get.cls, .code yX1_get cX1_get 2 (some .int)] : List Cond), w ∈ lw_good := List.forall_mem_cons.mpr ⟨mgd 1485 (by decide +kernel) (by decide +kernel), List.forall_mem_cons.mpr ⟨mgd 840 (by decide +kernel) (by decide +kernel), List.forall_mem_cons.mpr ⟨mgd 841 (by decide +kernel) (by decide +kernel), List.forall_mem_cons.mpr ⟨mgd 122 (by decide +kernel) (by decide +kernel), List.forall_mem_cons.mpr ⟨mgd 842 (by decide +kernel) (by decide +kernel), fun _ h => absurd h List.not_mem_nil⟩⟩⟩⟩⟩
set_option maxRecDepth 100000 in
set_option maxHeartbeats 2000000 in
theorem c_cvar (l : Launch) : ∀ (c : Nat) (s d p q : Nat) (B : List Nat), Ct l yX2_varint cX2_varint 4 (some .int) 1 21 (sp_cvar c s d p q B) := by
  intro c s d p q B
  refine Ct.of (fX2, nX2, aX2, iX2, lX2, [(22, 0, 2, 1, T_bget)], qX2, gX2, []) false tX2_varint (fun _ S => look [(4, ([1,2,0], I_cv c s d p q B S)), (55, ([1,3,2,0], I_cv2 c s d p q B S))]) (by decide) (by decide) kX2_varint ⟨_, _, rfl⟩ fX2_ok nX2_ok aX2_ok iX2_ok lX2_ok (fun p e R s m args below meth c Q D cy z r A C hR1 hR2 => List.forall_mem_cons.mpr ⟨cOK_use (fun _ _ _ _ _ _ _ _ h => let ⟨sp, h1, h2, h3⟩ := u_bget l _ _ _ _ _ _ _ _ h; ⟨sp, cOK_V C h1 vX2_varint_22 ⟨by decide, by decide, by decide +kernel⟩ ⟨by rw [hR1]; decide, by rw [hR2]; decide⟩ (k := 2) (T := TX1) (N := 3) rfl (by decide) h2, h3⟩), fun _ h => absurd h List.not_mem_nil⟩) qX2_ok gX2_ok rfl ?_ ?_
  · rintro _ S ⟨rfl, hp⟩
    refine ⟨Nat.le_of_ble_eq_true rfl, 300, ?_⟩
    show (∃ k1, I_cv c s d p q B S k1 [(1, .inl (0 : Int32)), (2, .inl (0 : Int32)), (0, .inr (.inr (some c)))] [] S 0 0)
    exact ⟨10, 0, 5, p, 0, rfl, rfl, hp.1.2.2.2.2.1, by decide, rfl, rfl, (sI_id hp.1.2.2.1).symm, rfl, rfl, rfl⟩
  · intro av S hpre pc I hI k lo st S1 cs sl h
    obtain ⟨rfl, hp⟩ := hpre
    have hm := look_in hI
    simp only [List.mem_cons, List.not_mem_nil, or_false] at hm
    rcases hm with hm | hm
    · cases hm
      obtain ⟨i, j, p1, w, rfl, hk, hp1, hw, rfl, rfl, rfl, rfl, rfl, he⟩ := h
      refine ⟨300, ?_⟩
      show (((5 : Int32) ≤ (nI i) → (([] : List MV) = [] ∧ mret (some .int) (sp_cvar c s d p q B) [.inr (.inr (some c))] S (some (.inl (-1 : Int32))) (sI S 301 c (nI p1)) 0 0)) ∧ (¬ (5 : Int32) ≤ (nI i) → (isO (sI S 301 c (nI p1)) 3 c ∧ (isO (sI S 301 c (nI p1)) 3 c ∧ (((mI (sI S 301 c (nI p1)) 302 c) ≤ (mI (sI S 301 c (nI p1)) 301 c) → (([] : List MV) = [] ∧ mret (some .int) (sp_cvar c s d p q B) [.inr (.inr (some c))] S (some (.inl (-1 : Int32))) (sI S 301 c (nI p1)) 0 0)) ∧ (¬ (mI (sI S 301 c (nI p1)) 302 c) ≤ (mI (sI S 301 c (nI p1)) 301 c) → (isO (sI S 301 c (nI p1)) 3 c ∧ (isO (sI S 301 c (nI p1)) 3 c ∧ (0 = 0 ∧ ((pa (mR (sI S 301 c (nI p1)) 300 c) fun a_1 => (∃ (d_2 : Nat) (B_3 : List Nat), (By (sI S 301 c (nI p1)) a_1 d_2 B_3) ∧ 0 ≤ 0 ∧ 0 ≤ 0 ∧ ((isO (sI S 301 c (nI p1)) 3 c ∧ (True ∧ (isO (sI S 301 c (nI p1)) 3 c ∧ ((¬ (nI i) = (4 : Int32) → (∃ k1, k1 < 2 * j ∧ I_cv2 c s d p q B S k1 [(1, .inl (nI w)), (3, .inl (bAt B_3 (mI (sI S 301 c (nI p1)) 301 c))), (2, .inl (nI i)), (0, .inr (.inr (some c)))] [] (sI (sI S 301 c (nI p1)) 301 c ((mI (sI S 301 c (nI p1)) 301 c) + (1 : Int32))) 0 0)) ∧ ((nI i) = (4 : Int32) → (((bAt B_3 (mI (sI S 301 c (nI p1)) 301 c)) ≤ (7 : Int32) → (∃ k1, k1 < 2 * j ∧ I_cv2 c s d p q B S k1 [(1, .inl (nI w)), (3, .inl (bAt B_3 (mI (sI S 301 c (nI p1)) 301 c))), (2, .inl (nI i)), (0, .inr (.inr (some c)))] [] (sI (sI S 301 c (nI p1)) 301 c ((mI (sI S 301 c (nI p1)) 301 c) + (1 : Int32))) 0 0)) ∧ (¬ (bAt B_3 (mI (sI S 301 c (nI p1)) 301 c)) ≤ (7 : Int32) → (([] : List MV) = [] ∧ mret (some .int) (sp_cvar c s d p q B) [.inr (.inr (some c))] S (some (.inl (-1 : Int32))) (sI (sI S 301 c (nI p1)) 301 c ((mI (sI S 301 c (nI p1)) 301 c) + (1 : Int32))) 0 0)))))))))))))))))))))
      obtain ⟨⟨h1, h2, h3, h4, h5, h6⟩, hB⟩ := hp
      have e1 : mI (sI S 301 c (nI p1)) 301 c = nI p1 := by simp [mL_sI, mL_sR, mL_sJ, mL_rI, mL_rJ, mL_rR, mK_sI, mK_sR, mK_sJ, mK_rI, mK_rJ, mK_rR, mI_sR, mI_sJ, mI_rI, mI_rJ, mI_rR, mR_sI, mR_sJ, mR_rI, mR_rJ, mR_rR, mJ_sI, mJ_sR, mJ_rI, mJ_rJ, mJ_rR, mN_sI, mN_sR, mN_sJ, mN_rI, mN_rJ, mN_rR, eI_sI, eI_sR, eI_sJ, eI_rJ, eI_rR, eJ_sI, eJ_sR, eJ_sJ, eJ_rI, eJ_rR, eR_sI, eR_sR, eR_sJ, eR_rI, eR_rJ, mZ_sI, mZ_sR, mZ_sJ, mZ_rI, mZ_rJ, mZ_rR, mQ_sI, mQ_sR, mQ_sJ, mQ_rI, mQ_rJ, mQ_rR, mI_nA, mR_nA, mJ_nA, mZ_nA, mQ_nA, mN_nO, eI_nO, eJ_nO, eR_nO, mZ_nO, mQ_nO, mI_sI, mR_sR, mJ_sJ, eI_rI, eR_rR, eJ_rJ, eI_nA, mN_nA, mK_nA, mK_nO, mI_nO, mR_nO]
      have e2 : mI (sI S 301 c (nI p1)) 302 c = nI q := by simp [mL_sI, mL_sR, mL_sJ, mL_rI, mL_rJ, mL_rR, mK_sI, mK_sR, mK_sJ, mK_rI, mK_rJ, mK_rR, mI_sR, mI_sJ, mI_rI, mI_rJ, mI_rR, mR_sI, mR_sJ, mR_rI, mR_rJ, mR_rR, mJ_sI, mJ_sR, mJ_rI, mJ_rJ, mJ_rR, mN_sI, mN_sR, mN_sJ, mN_rI, mN_rJ, mN_rR, eI_sI, eI_sR, eI_sJ, eI_rJ, eI_rR, eJ_sI, eJ_sR, eJ_sJ, eJ_rI, eJ_rR, eR_sI, eR_sR, eR_sJ, eR_rI, eR_rJ, mZ_sI, mZ_sR, mZ_sJ, mZ_rI, mZ_rJ, mZ_rR, mQ_sI, mQ_sR, mQ_sJ, mQ_rI, mQ_rJ, mQ_rR, mI_nA, mR_nA, mJ_nA, mZ_nA, mQ_nA, mN_nO, eI_nO, eJ_nO, eR_nO, mZ_nO, mQ_nO, mI_sI, mR_sR, mJ_sJ, eI_rI, eR_rR, eJ_rJ, eI_nA, mN_nA, mK_nA, mK_nO, mI_nO, mR_nO]; exact h4
      have e3 : mR (sI S 301 c (nI p1)) 300 c = some s := by simp [mL_sI, mL_sR, mL_sJ, mL_rI, mL_rJ, mL_rR, mK_sI, mK_sR, mK_sJ, mK_rI, mK_rJ, mK_rR, mI_sR, mI_sJ, mI_rI, mI_rJ, mI_rR, mR_sI, mR_sJ, mR_rI, mR_rJ, mR_rR, mJ_sI, mJ_sR, mJ_rI, mJ_rJ, mJ_rR, mN_sI, mN_sR, mN_sJ, mN_rI, mN_rJ, mN_rR, eI_sI, eI_sR, eI_sJ, eI_rJ, eI_rR, eJ_sI, eJ_sR, eJ_sJ, eJ_rI, eJ_rR, eR_sI, eR_sR, eR_sJ, eR_rI, eR_rJ, mZ_sI, mZ_sR, mZ_sJ, mZ_rI, mZ_rJ, mZ_rR, mQ_sI, mQ_sR, mQ_sJ, mQ_rI, mQ_rJ, mQ_rR, mI_nA, mR_nA, mJ_nA, mZ_nA, mQ_nA, mN_nO, eI_nO, eJ_nO, eR_nO, mZ_nO, mQ_nO, mI_sI, mR_sR, mJ_sJ, eI_rI, eR_rR, eJ_rJ, eI_nA, mN_nA, mK_nA, mK_nO, mI_nO, mR_nO]; exact h2
      have hB1 : By (sI S 301 c (nI p1)) s d B := hB.keep (Keep.rf.sI (P := fun b => b = c) rfl) (fun e => absurd e (isO_ne hB.1 h1 (by decide))) (fun e => absurd e (isO_ne hB.2.2.1 h1 (by decide)))
      have hbl := getD_lt hB.bytesLt p1
      have hend : ∀ (z : (vint B q p).1 = none ∧ (vint B q p).2 = p1), mret (some .int) (sp_cvar c s d p q B) [.inr (.inr (some c))] S (some (.inl (-1 : Int32))) (sI S 301 c (nI p1)) 0 0 := fun z => ⟨trivial, ⟨by rw [z.1]; rfl, by rw [z.2]⟩, Nat.le_refl _, Nat.le_refl _⟩
      rw [e1, e2, e3, nI_1, sI_sI]
      refine if_le (a := 5) (by decide) (by omega) (fun h7 => ⟨rfl, hend ?_⟩) (fun h7 => ⟨h1, h1, if_le (by omega) (by omega) (fun h8 => ⟨rfl, hend ?_⟩) (fun h8 => ⟨h1, h1, rfl, d, B, hB1, Nat.le_refl _, Nat.le_refl _, h1, trivial, h1, ?_⟩)⟩)
      · have : j = 0 := by omega
        subst this
        rw [he]; exact ⟨rfl, rfl⟩
      · obtain ⟨j, rfl⟩ : ∃ j', j = j' + 1 := ⟨j - 1, by omega⟩
        rw [he, vrd, if_neg (by omega)]; exact ⟨rfl, rfl⟩
      · obtain ⟨j, rfl⟩ : ∃ j', j = j' + 1 := ⟨j - 1, by omega⟩
        rw [vrd, if_pos h8] at he
        rw [bAt_nI (by omega)]
        refine if_ne (b := 4) (by omega) (by decide) (fun h9 => ?_) (fun h9 => if_le (b := 7) (by omega) (by decide) (fun h0 => ?_) (fun h0 => ⟨rfl, ⟨trivial, ⟨?_, ?_⟩, Nat.le_refl _, Nat.le_refl _⟩⟩))
        · rw [if_neg (fun z => h9 z.1)] at he
          exact ⟨2 * j + 1, by omega, i, j, p1 + 1, w, _, rfl, by omega, h8, hw, hbl, fun z => absurd z h9, rfl, rfl, rfl, rfl, rfl, he⟩
        · rw [if_neg (fun z => by omega)] at he
          exact ⟨2 * j + 1, by omega, i, j, p1 + 1, w, _, rfl, by omega, h8, hw, hbl, fun _ => h0, rfl, rfl, rfl, rfl, rfl, he⟩
        · rw [if_pos ⟨h9, h0⟩] at he; rw [he]; rfl
        · rw [if_pos ⟨h9, h0⟩] at he; rw [he]
    · cases hm
      obtain ⟨i, j, p1, w, o, rfl, hk, hp1, hw, ho, h47, rfl, rfl, rfl, rfl, rfl, he⟩ := h
      refine ⟨300, ?_⟩
      show (((128 : Int32) ≤ (nI o) → (∃ k1, k1 < 2 * j + 1 ∧ I_cv c s d p q B S k1 [(1, .inl ((nI w) ||| (((nI o) &&& (127 : Int32)) <<< (((7 : Int32) * (nI i)) &&& 31)))), (2, .inl ((nI i) + (1 : Int32))), (0, .inr (.inr (some c)))] [] (sI S 301 c (nI p1)) 0 0)) ∧ (¬ (128 : Int32) ≤ (nI o) → ((¬ (nI o) = 0 → (([] : List MV) = [] ∧ mret (some .int) (sp_cvar c s d p q B) [.inr (.inr (some c))] S (some (.inl ((nI w) ||| (((nI o) &&& (127 : Int32)) <<< (((7 : Int32) * (nI i)) &&& 31))))) (sI S 301 c (nI p1)) 0 0)) ∧ ((nI o) = 0 → (((nI i) ≤ 0 → (([] : List MV) = [] ∧ mret (some .int) (sp_cvar c s d p q B) [.inr (.inr (some c))] S (some (.inl ((nI w) ||| (((nI o) &&& (127 : Int32)) <<< (((7 : Int32) * (nI i)) &&& 31))))) (sI S 301 c (nI p1)) 0 0)) ∧ (¬ (nI i) ≤ 0 → (([] : List MV) = [] ∧ mret (some .int) (sp_cvar c s d p q B) [.inr (.inr (some c))] S (some (.inl (-1 : Int32))) (sI S 301 c (nI p1)) 0 0)))))))
      obtain ⟨v1, v2, v3⟩ := shv ho (by omega) h47 hw
      rw [v1, nI_1]
      refine if_le (a := 128) (by decide) (by omega) (fun h1 => ?_) (fun h1 => if_ne (b := 0) (by omega) (by decide) (fun h2 => ⟨rfl, trivial, ⟨?_, ?_⟩, Nat.le_refl _, Nat.le_refl _⟩) (fun h2 => if_le (b := 0) (by omega) (by decide) (fun h3 => ⟨rfl, trivial, ⟨?_, ?_⟩, Nat.le_refl _, Nat.le_refl _⟩) (fun h3 => ⟨rfl, trivial, ⟨?_, ?_⟩, Nat.le_refl _, Nat.le_refl _⟩)))
      · rw [if_pos h1] at he
        have e1 : o % 128 = o - 128 := by omega
        rw [e1] at v2 ⊢
        exact ⟨2 * j, by omega, i + 1, j, p1, _, rfl, by omega, hp1, v2, rfl, rfl, rfl, rfl, rfl, he⟩
      · rw [he, if_neg (by omega), if_neg (by omega), show o % 128 = o by omega]; rfl
      · rw [he, if_neg (by omega), if_neg (by omega)]
      · rw [he, if_neg (by omega), if_neg (by omega), show o % 128 = o by omega]; rfl
      · rw [he, if_neg (by omega), if_neg (by omega)]
      · rw [he, if_neg (by omega), if_pos ⟨h2, h3⟩]; rfl
      · rw [he, if_neg (by omega), if_pos ⟨h2, h3⟩]
theorem u_cvar (l : Launch) : Us l yX2_varint cX2_varint 4 (some .int) 1 21 3 T_cvar := by
  intro Rc Rs av S cs sl K Kx h
  unfold T_cvar at h
  split at h
  · rename_i c_o
    obtain ⟨c, rfl, h_1⟩ := pa_of h
    obtain ⟨s, d, p, q, B, hp, hc, hs, hk⟩ := h_1
    refine ⟨(sp_cvar c s d p q B), c_cvar l c s d p q B, fun _ _ h9 => ⟨_, _, h9.1, h9.2.1.1⟩, ⟨rfl, hp⟩, hc, hs, fun v9 S' h8 => by
      obtain ⟨h7, h8⟩ := h8
      cases h7
      subst h8
      exact hk, fun _ _ q => q.elim⟩
  · exact h.elim
