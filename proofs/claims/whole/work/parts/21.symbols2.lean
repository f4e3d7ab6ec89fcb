/-! ===== Bytes: countSymbols, isFramed, addSymbol ===== -/
/-- 1 where a proposition holds, else 0 -/
noncomputable def tf (P : Prop) : Int32 := @ite Int32 P (Classical.propDecidable P) 1 0
theorem tf_t {P : Prop} (h : P) : tf P = 1 := if_pos h
theorem tf_f {P : Prop} (h : ¬ P) : tf P = 0 := if_neg h
theorem tf_b (P : Prop) : tf P = 0 ∨ tf P = 1 := by
  rcases Classical.em P with h | h
  · exact Or.inr (tf_t h)
  · exact Or.inl (tf_f h)
theorem tf_c {P Q : Prop} (h : P ↔ Q) : tf P = tf Q := by rw [propext h]
theorem if_tf {P A B : Prop} (h1 : ¬ P → A) (h2 : P → B) : (tf P = 0 → A) ∧ (¬ tf P = 0 → B) := by
  rcases Classical.em P with h | h
  · rw [tf_t h]; exact ⟨fun q => absurd q (by decide), fun _ => h2 h⟩
  · rw [tf_f h]; exact ⟨fun _ => h1 h, fun q => absurd rfl q⟩
theorem if_tfn {P A B : Prop} (h1 : P → A) (h2 : ¬ P → B) : (¬ tf P = 0 → A) ∧ (tf P = 0 → B) := by
  rcases Classical.em P with h | h
  · rw [tf_t h]; exact ⟨fun _ => h1 h, fun q => absurd q (by decide)⟩
  · rw [tf_f h]; exact ⟨fun q => absurd rfl q, fun _ => h2 h⟩
/-- ends -/
theorem ret_t {P : Prop} {x : Int32} (h : P) (hx : x = 1) : some (Sum.inl x : MV) = some (Sum.inl (tf P)) := by rw [tf_t h, hx]
theorem ret_f {P : Prop} {x : Int32} (h : ¬ P) (hx : x = 0) : some (Sum.inl x : MV) = some (Sum.inl (tf P)) := by rw [tf_f h, hx]
def wN (c : Int32) : Nat := if 128 ≤ c then (if 2048 ≤ c then (if 65536 ≤ c then 4 else 3) else 2) else 1
theorem wOf_N (c : Int32) : wOf c = nI (wN c) := by
  unfold wOf wN
  split
  · split
    · split <;> rfl
    · rfl
  · rfl
theorem wN_le (c : Int32) : 1 ≤ wN c ∧ wN c ≤ 4 := by
  unfold wN
  split
  · split
    · split <;> decide
    · decide
  · decide
/-- the symbols from a place on -/
def symsF (B : List Nat) : Nat → Nat → Option (List Int32)
  | 0, _ => some []
  | t + 1, p => if p < B.length then (if symAt B p = -1 then none else (symsF B t (p + wN (symAt B p))).map (symAt B p :: ·)) else some []
def syms (B : List Nat) : Option (List Int32) := symsF B B.length 0
/-- how many, -1 for none -/
def cntS (o : Option (List Int32)) (c : Nat) : Int32 := match o with
  | none => -1
  | some l => nI (c + l.length)
def I_cs (a : Nat) (B : List Nat) (S : MM) (k : Nat) : KT := fun lo st S1 cs sl => ∃ c p, B.length ≤ p + k ∧ p ≤ B.length + 4 ∧ lo = [(1, .inl (nI c)), (2, .inl (nI p)), (0, .inr (.inr (some a)))] ∧ st = [] ∧ S = S1 ∧ cs = 0 ∧ sl = 0 ∧ cntS (syms B) 0 = cntS (symsF B k p) c
def T_cnts : TR := fun Rc Rs av S cs sl K _Kx => match av with
  | [.inr (.inr a_o)] => pa a_o fun a => (∃ (d : Nat) (B : List Nat), (By S a d B) ∧ cs ≤ Rc ∧ sl ≤ Rs ∧ (K (some (.inl (cntS (syms B) 0))) S cs sl))
  | _ => False
def sp_cnts (a : Nat) (d : Nat) (B : List Nat) : Sp := (fun av S => av = [.inr (.inr (some a))] ∧ (By S a d B), fun _ S => 0, fun _ S => 0, fun _ S rv S' => rv = (some (.inl (cntS (syms B) 0))) ∧ S' = S, fun _ _ _ _ => False)
def tX1_countSymbols : CD := [(0, .iconst 0), (1, .istore_n 1), (2, .iconst 0), (3, .istore_n 2), (4, .iload_n 2), (5, .aload_n 0), (6, .getfield 15), (9, .if_icmp .ge 29), (12, .aload_n 0), (13, .iload_n 2), (14, .invokevirtual 58), (17, .istore_n 3), (18, .iload_n 3), (19, .iconst (-1)), (20, .if_icmp .ne 5), (23, .iconst (-1)), (24, .ireturn), (25, .iload_n 2), (26, .iload_n 3), (27, .invokestatic 51), (30, .iadd), (31, .istore_n 2), (32, .iinc 1 1), (35, .goto (-31)), (38, .iload_n 1), (39, .ireturn)]
set_option maxRecDepth 100000 in
theorem kX1_countSymbols : chk cX1_countSymbols tX1_countSymbols = true := by decide +kernel
theorem vX1_countSymbols_58 : ∀ w ∈ ([.methodLink RX1 58 yX1_symbolAt, .instanceMethod yX1_symbolAt, .selects yX1_symbolAt.cls yX1_symbolAt yX1_symbolAt, .initialized yX1_symbolAt.cls, .code yX1_symbolAt cX1_symbolAt 7 (some .int)] : List Cond), w ∈ lw_good := List.forall_mem_cons.mpr ⟨mgd 835 (by decide +kernel) (by decide +kernel), List.forall_mem_cons.mpr ⟨mgd 836 (by decide +kernel) (by decide +kernel), List.forall_mem_cons.mpr ⟨mgd 837 (by decide +kernel) (by decide +kernel), List.forall_mem_cons.mpr ⟨mgd 122 (by decide +kernel) (by decide +kernel), List.forall_mem_cons.mpr ⟨mgd 838 (by decide +kernel) (by decide +kernel), fun _ h => absurd h List.not_mem_nil⟩⟩⟩⟩⟩
theorem vX1_countSymbols_51 : ∀ w ∈ ([.methodLink RX1 51 yX1_widthOf, .static yX1_widthOf, .initialized yX1_widthOf.cls, .code yX1_widthOf cX1_widthOf 1 (some .int)] : List Cond), w ∈ lw_good := List.forall_mem_cons.mpr ⟨mgd 849 (by decide +kernel) (by decide +kernel), List.forall_mem_cons.mpr ⟨mgd 850 (by decide +kernel) (by decide +kernel), List.forall_mem_cons.mpr ⟨mgd 122 (by decide +kernel) (by decide +kernel), List.forall_mem_cons.mpr ⟨mgd 851 (by decide +kernel) (by decide +kernel), fun _ h => absurd h List.not_mem_nil⟩⟩⟩⟩
set_option maxRecDepth 100000 in
set_option maxHeartbeats 2000000 in
theorem c_cnts (l : Launch) : ∀ (a : Nat) (d : Nat) (B : List Nat), Ct l yX1_countSymbols cX1_countSymbols 4 (some .int) 2 47 (sp_cnts a d B) := by
  intro a d B
  refine Ct.of (fX1, nX1, aX1, iX1, lX1, [(58, 0, 2, 1, T_sym), (51, 2, 1, 1, T_wof)], qX1, gX1, []) false tX1_countSymbols (fun _ S => look [(4, ([1,2,0], I_cs a B S))]) (by decide) (by decide) kX1_countSymbols ⟨_, _, rfl⟩ fX1_ok nX1_ok aX1_ok iX1_ok lX1_ok (fun p e R s m args below meth c Q D cy z r A C hR1 hR2 => List.forall_mem_cons.mpr ⟨cOK_use (fun _ _ _ _ _ _ _ _ h => let ⟨sp, h1, h2, h3⟩ := u_sym l _ _ _ _ _ _ _ _ h; ⟨sp, cOK_V C h1 vX1_countSymbols_58 ⟨by decide, by decide, by decide +kernel⟩ ⟨by rw [hR1]; decide, by rw [hR2]; decide⟩ (k := 2) (T := TX1) (N := 3) rfl (by decide) h2, h3⟩), List.forall_mem_cons.mpr ⟨cOK_use (fun _ _ _ _ _ _ _ _ h => let ⟨sp, h1, _, h3⟩ := u_wof l _ _ _ _ _ _ _ _ h; ⟨sp, cOK_S C h1 vX1_countSymbols_51 ⟨by decide, by decide, by decide +kernel⟩ ⟨by rw [hR1]; decide, by rw [hR2]; decide⟩, h3⟩), fun _ h => absurd h List.not_mem_nil⟩⟩) qX1_ok gX1_ok rfl ?_ ?_
  · rintro _ S ⟨rfl, hp⟩
    refine ⟨Nat.le_of_ble_eq_true rfl, 300, ?_⟩
    show (∃ k1, I_cs a B S k1 [(1, .inl (0 : Int32)), (2, .inl (0 : Int32)), (0, .inr (.inr (some a)))] [] S 0 0)
    exact ⟨B.length, 0, 0, by omega, by omega, rfl, rfl, rfl, rfl, rfl, rfl⟩
  · intro av S hpre pc I hI k lo st S1 cs sl h
    obtain ⟨rfl, hp⟩ := hpre
    have hm := look_in hI
    rw [List.mem_singleton] at hm
    cases hm
    obtain ⟨c, p, h1, h2, rfl, rfl, rfl, rfl, rfl, he⟩ := h
    refine ⟨300, ?_⟩
    show (isO S 2 a ∧ (((mI S 201 a) ≤ (nI p) → (([] : List MV) = [] ∧ mret (some .int) (sp_cnts a d B) [.inr (.inr (some a))] S (some (.inl (nI c))) S 0 0)) ∧ (¬ (mI S 201 a) ≤ (nI p) → (0 = 0 ∧ (∃ (n_1 : Nat), nI p = nI n_1 ∧ (∃ (d_2 : Nat) (B_3 : List Nat), (By S a d_2 B_3 ∧ n_1 ≤ 1000000) ∧ 0 ≤ 0 ∧ 0 ≤ 0 ∧ (((¬ (symAt B_3 n_1) = (-1 : Int32) → (2 = 2 ∧ (True ∧ 0 ≤ 0 ∧ 0 ≤ 0 ∧ ((∃ k1, k1 < k ∧ I_cs a B S k1 [(1, .inl ((nI c) + (1 : Int32))), (2, .inl ((nI p) + (wOf (symAt B_3 n_1)))), (0, .inr (.inr (some a)))] [] S 0 0))))) ∧ ((symAt B_3 n_1) = (-1 : Int32) → (([] : List MV) = [] ∧ mret (some .int) (sp_cnts a d B) [.inr (.inr (some a))] S (some (.inl (-1 : Int32))) S 0 0))))))))))
    have hl := hp.len
    rw [hp.2.2.2.1]
    refine ⟨hp.1, if_le (by omega) (by omega) (fun h3 => ⟨rfl, trivial, ⟨?_, rfl⟩, Nat.le_refl _, Nat.le_refl _⟩) (fun h3 => ?_)⟩
    · rw [he]
      cases k with
      | zero => rfl
      | succ k => rw [symsF, if_neg (by omega)]; rfl
    · obtain ⟨k, rfl⟩ : ∃ k', k = k' + 1 := ⟨k - 1, by omega⟩
      rw [symsF, if_pos h3] at he
      refine ⟨rfl, p, rfl, d, B, ⟨hp, by omega⟩, Nat.le_refl _, Nat.le_refl _, fun h4 => ?_, fun h4 => ⟨rfl, trivial, ⟨?_, rfl⟩, Nat.le_refl _, Nat.le_refl _⟩⟩
      · have hw := wN_le (symAt B p)
        rw [if_neg h4] at he
        refine ⟨rfl, trivial, Nat.le_refl _, Nat.le_refl _, k, by omega, c + 1, p + wN (symAt B p), by omega, by omega, ?_, rfl, rfl, rfl, rfl, ?_⟩
        · rw [wOf_N, nI_add, nI_1]
        · rw [he]
          cases symsF B k (p + wN (symAt B p)) with
          | none => rfl
          | some l => simp only [cntS, Option.map_some, List.length_cons]; congr 1; omega
      · rw [he, if_pos h4]; rfl
theorem u_cnts (l : Launch) : Us l yX1_countSymbols cX1_countSymbols 4 (some .int) 2 47 2 T_cnts := by
  intro Rc Rs av S cs sl K Kx h
  unfold T_cnts at h
  split at h
  · rename_i a_o
    obtain ⟨a, rfl, h_1⟩ := pa_of h
    obtain ⟨d, B, hp, hc, hs, hk⟩ := h_1
    refine ⟨(sp_cnts a d B), c_cnts l a d B, fun _ _ h9 => ⟨_, _, h9.1, h9.2.1⟩, ⟨rfl, hp⟩, hc, hs, fun v9 S' h8 => by
      obtain ⟨h7, h8⟩ := h8
      cases h7
      subst h8
      exact hk, fun _ _ q => q.elim⟩
  · exact h.elim
def framed (B : List Nat) : Prop := 7 ≤ B.length ∧ bAt B 0 = 87 ∧ bAt B 2 < 4 ∧ (bAt B 1 = 1 ∨ bAt B 1 = 2) ∧ ∀ k, k < 4 → bAt B (nI (B.length - 4 + k)) = ush (crcN B (B.length - 4) ^^^ -1) (8 * nI k) &&& 255
def I_fr (a : Nat) (B : List Nat) (S : MM) (k : Nat) : KT := fun lo st S1 cs sl => ∃ t, t + k = 4 ∧ 7 ≤ B.length ∧ bAt B 0 = 87 ∧ bAt B 2 < 4 ∧ (bAt B 1 = 1 ∨ bAt B 1 = 2) ∧ lo = [(2, .inl (nI t)), (1, .inl (crcN B (B.length - 4) ^^^ -1)), (0, .inr (.inr (some a)))] ∧ st = [] ∧ S = S1 ∧ cs = 0 ∧ sl = 0 ∧ ∀ j, j < t → bAt B (nI (B.length - 4 + j)) = ush (crcN B (B.length - 4) ^^^ -1) (8 * nI j) &&& 255
def T_frm : TR := fun Rc Rs av S cs sl K _Kx => match av with
  | [.inr (.inr a_o)] => pa a_o fun a => (∃ (d : Nat) (B : List Nat), (By S a d B) ∧ cs ≤ Rc ∧ sl ≤ Rs ∧ (K (some (.inl (tf (framed B)))) S cs sl))
  | _ => False
def sp_frm (a : Nat) (d : Nat) (B : List Nat) : Sp := (fun av S => av = [.inr (.inr (some a))] ∧ (By S a d B), fun _ S => 0, fun _ S => 0, fun _ S rv S' => rv = (some (.inl (tf (framed B)))) ∧ S' = S, fun _ _ _ _ => False)
def I_fr0 (a : Nat) (B : List Nat) (S : MM) (k : Nat) : KT := fun lo st S1 cs sl => k = 5 ∧ 7 ≤ B.length ∧ bAt B 0 = 87 ∧ bAt B 2 < 4 ∧ (bAt B 1 = 1 ∨ bAt B 1 = 2) ∧ lo = [(0, .inr (.inr (some a)))] ∧ st = [] ∧ S = S1 ∧ cs = 0 ∧ sl = 0
def tX1_isFramed : CD := [(0, .aload_n 0), (1, .getfield 15), (4, .bipush 7), (6, .if_icmp .lt 22), (9, .aload_n 0), (10, .iconst 0), (11, .invokevirtual 40), (14, .bipush 87), (16, .if_icmp .ne 12), (19, .aload_n 0), (20, .iconst 2), (21, .invokevirtual 40), (24, .iconst 4), (25, .if_icmp .lt 5), (28, .iconst 0), (29, .ireturn), (30, .aload_n 0), (31, .iconst 1), (32, .invokevirtual 40), (35, .iconst 1), (36, .if_icmp .eq 14), (39, .aload_n 0), (40, .iconst 1), (41, .invokevirtual 40), (44, .iconst 2), (45, .if_icmp .eq 5), (48, .iconst 0), (49, .ireturn), (50, .aload_n 0), (51, .aload_n 0), (52, .getfield 15), (55, .iconst 4), (56, .isub), (57, .invokevirtual 64), (60, .istore_n 1), (61, .iconst 0), (62, .istore_n 2), (63, .iload_n 2), (64, .iconst 4), (65, .if_icmp .ge 36), (68, .aload_n 0), (69, .aload_n 0), (70, .getfield 15), (73, .iconst 4), (74, .isub), (75, .iload_n 2), (76, .iadd), (77, .invokevirtual 40), (80, .iload_n 1), (81, .bipush 8), (83, .iload_n 2), (84, .imul), (85, .iushr), (86, .sipush 255), (89, .iand), (90, .if_icmp .eq 5), (93, .iconst 0), (94, .ireturn), (95, .iinc 2 1), (98, .goto (-35)), (101, .iconst 1), (102, .ireturn)]
set_option maxRecDepth 100000 in
theorem kX1_isFramed : chk cX1_isFramed tX1_isFramed = true := by decide +kernel
theorem vX1_isFramed_40 : ∀ w ∈ ([.methodLink RX1 40 yX1_get, .instanceMethod yX1_get, .selects yX1_get.cls yX1_get yX1_get, .initialized yX1_get.cls, .code yX1_get cX1_get 2 (some .int)] : List Cond), w ∈ lw_good := List.forall_mem_cons.mpr ⟨mgd 839 (by decide +kernel) (by decide +kernel), List.forall_mem_cons.mpr ⟨mgd 840 (by decide +kernel) (by decide +kernel), List.forall_mem_cons.mpr ⟨mgd 841 (by decide +kernel) (by decide +kernel), List.forall_mem_cons.mpr ⟨mgd 122 (by decide +kernel) (by decide +kernel), List.forall_mem_cons.mpr ⟨mgd 842 (by decide +kernel) (by decide +kernel), fun _ h => absurd h List.not_mem_nil⟩⟩⟩⟩⟩
theorem vX1_isFramed_64 : ∀ w ∈ ([.methodLink RX1 64 yX1_checksum, .instanceMethod yX1_checksum, .selects yX1_checksum.cls yX1_checksum yX1_checksum, .initialized yX1_checksum.cls, .code yX1_checksum cX1_checksum 4 (some .int)] : List Cond), w ∈ lw_good := List.forall_mem_cons.mpr ⟨mgd 1349 (by decide +kernel) (by decide +kernel), List.forall_mem_cons.mpr ⟨mgd 1351 (by decide +kernel) (by decide +kernel), List.forall_mem_cons.mpr ⟨mgd 24 (by decide +kernel) (by decide +kernel), List.forall_mem_cons.mpr ⟨mgd 122 (by decide +kernel) (by decide +kernel), List.forall_mem_cons.mpr ⟨mgd 1352 (by decide +kernel) (by decide +kernel), fun _ h => absurd h List.not_mem_nil⟩⟩⟩⟩⟩
set_option maxRecDepth 100000 in
set_option maxHeartbeats 2000000 in
theorem c_frm (l : Launch) : ∀ (a : Nat) (d : Nat) (B : List Nat), Ct l yX1_isFramed cX1_isFramed 3 (some .boolean) 2 44 (sp_frm a d B) := by
  intro a d B
  refine Ct.of (fX1, nX1, aX1, iX1, lX1, [(40, 0, 2, 1, T_bget), (64, 0, 2, 1, T_bchk)], qX1, gX1, []) false tX1_isFramed (fun _ S => look [(50, ([0], I_fr0 a B S)), (63, ([2,1,0], I_fr a B S))]) (by decide) (by decide) kX1_isFramed ⟨_, _, rfl⟩ fX1_ok nX1_ok aX1_ok iX1_ok lX1_ok (fun p e R s m args below meth c Q D cy z r A C hR1 hR2 => List.forall_mem_cons.mpr ⟨cOK_use (fun _ _ _ _ _ _ _ _ h => let ⟨sp, h1, h2, h3⟩ := u_bget l _ _ _ _ _ _ _ _ h; ⟨sp, cOK_V C h1 vX1_isFramed_40 ⟨by decide, by decide, by decide +kernel⟩ ⟨by rw [hR1]; decide, by rw [hR2]; decide⟩ (k := 2) (T := TX1) (N := 3) rfl (by decide) h2, h3⟩), List.forall_mem_cons.mpr ⟨cOK_use (fun _ _ _ _ _ _ _ _ h => let ⟨sp, h1, h2, h3⟩ := u_bchk l _ _ _ _ _ _ _ _ h; ⟨sp, cOK_V C h1 vX1_isFramed_64 ⟨by decide, by decide, by decide +kernel⟩ ⟨by rw [hR1]; decide, by rw [hR2]; decide⟩ (k := 2) (T := TX1) (N := 3) rfl (by decide) h2, h3⟩), fun _ h => absurd h List.not_mem_nil⟩⟩) qX1_ok gX1_ok rfl ?_ ?_
  · rintro _ S ⟨rfl, hp⟩
    refine ⟨Nat.le_of_ble_eq_true rfl, 300, ?_⟩
    show (isO S 2 a ∧ (((mI S 201 a) < (7 : Int32) → (([] : List MV) = [] ∧ mret (some .boolean) (sp_frm a d B) [.inr (.inr (some a))] S (some (.inl (0 : Int32))) S 0 0)) ∧ (¬ (mI S 201 a) < (7 : Int32) → (0 = 0 ∧ (∃ (d_1 : Nat) (B_2 : List Nat), (By S a d_1 B_2) ∧ 0 ≤ 0 ∧ 0 ≤ 0 ∧ (((¬ (bAt B_2 (0 : Int32)) = (87 : Int32) → (([] : List MV) = [] ∧ mret (some .boolean) (sp_frm a d B) [.inr (.inr (some a))] S (some (.inl (0 : Int32))) S 0 0)) ∧ ((bAt B_2 (0 : Int32)) = (87 : Int32) → (0 = 0 ∧ (∃ (d_4 : Nat) (B_5 : List Nat), (By S a d_4 B_5) ∧ 0 ≤ 0 ∧ 0 ≤ 0 ∧ ((((bAt B_5 (2 : Int32)) < (4 : Int32) → (0 = 0 ∧ (∃ (d_7 : Nat) (B_8 : List Nat), (By S a d_7 B_8) ∧ 0 ≤ 0 ∧ 0 ≤ 0 ∧ ((((bAt B_8 (1 : Int32)) = (1 : Int32) → (∃ k1, I_fr0 a B S k1 [(0, .inr (.inr (some a)))] [] S 0 0)) ∧ (¬ (bAt B_8 (1 : Int32)) = (1 : Int32) → (0 = 0 ∧ (∃ (d_10 : Nat) (B_11 : List Nat), (By S a d_10 B_11) ∧ 0 ≤ 0 ∧ 0 ≤ 0 ∧ ((((bAt B_11 (1 : Int32)) = (2 : Int32) → (∃ k1, I_fr0 a B S k1 [(0, .inr (.inr (some a)))] [] S 0 0)) ∧ (¬ (bAt B_11 (1 : Int32)) = (2 : Int32) → (([] : List MV) = [] ∧ mret (some .boolean) (sp_frm a d B) [.inr (.inr (some a))] S (some (.inl (0 : Int32))) S 0 0)))))))))))) ∧ (¬ (bAt B_5 (2 : Int32)) < (4 : Int32) → (([] : List MV) = [] ∧ mret (some .boolean) (sp_frm a d B) [.inr (.inr (some a))] S (some (.inl (0 : Int32))) S 0 0))))))))))))))
    have hl := hp.len
    rw [hp.2.2.2.1]
    have hno : ∀ (q : ¬ framed B), mret (some .boolean) (sp_frm a d B) [.inr (.inr (some a))] S (some (.inl 0)) S 0 0 := fun q => ⟨Or.inl rfl, ⟨ret_f q rfl, rfl⟩, Nat.le_refl _, Nat.le_refl _⟩
    have h7 : (7 : Int32) = nI 7 := rfl
    refine ⟨hp.1, ?_⟩
    rw [h7]
    refine if_lt (by omega) (by decide) (fun h => ⟨rfl, hno (fun q => by have := q.1; omega)⟩) (fun h => ⟨rfl, d, B, hp, Nat.le_refl _, Nat.le_refl _, fun h1 => ⟨rfl, hno (fun q => h1 q.2.1)⟩, fun h1 => ⟨rfl, d, B, hp, Nat.le_refl _, Nat.le_refl _, fun h2 => ?_, fun h2 => ⟨rfl, hno (fun q => h2 q.2.2.1)⟩⟩⟩)
    exact ⟨rfl, d, B, hp, Nat.le_refl _, Nat.le_refl _, fun h3 => ⟨5, rfl, h, h1, h2, Or.inl h3, rfl, rfl, rfl, rfl, rfl⟩, fun h3 => ⟨rfl, d, B, hp, Nat.le_refl _, Nat.le_refl _, fun h4 => ⟨5, rfl, h, h1, h2, Or.inr h4, rfl, rfl, rfl, rfl, rfl⟩, fun h4 => ⟨rfl, hno (fun q => q.2.2.2.1.elim h3 h4)⟩⟩⟩
  · intro av S hpre pc I hI k lo st S1 cs sl h
    obtain ⟨rfl, hp⟩ := hpre
    have hm := look_in hI
    simp only [List.mem_cons, List.not_mem_nil, or_false] at hm
    rcases hm with hm | hm
    · cases hm
      obtain ⟨rfl, h1, h2, h3, h4, rfl, rfl, rfl, rfl, rfl⟩ := h
      refine ⟨300, ?_⟩
      show (isO S 2 a ∧ (0 = 0 ∧ (∃ (d_1 : Nat) (B_2 : List Nat) (n_3 : Nat), (By S a d_1 B_2 ∧ ((mI S 201 a) - (4 : Int32)) = nI n_3 ∧ n_3 ≤ 32768) ∧ 0 ≤ 0 ∧ 0 ≤ 0 ∧ ((∃ k1, k1 < 5 ∧ I_fr a B S k1 [(2, .inl (0 : Int32)), (1, .inl (crcN B_2 n_3 ^^^ -1)), (0, .inr (.inr (some a)))] [] S 0 0)))))
      have hl := hp.len
      rw [hp.2.2.2.1]
      have h9 : (4 : Int32) = nI 4 := rfl
      rw [h9, pk_sub (by omega)]
      exact ⟨hp.1, rfl, d, B, B.length - 4, ⟨hp, rfl, by omega⟩, Nat.le_refl _, Nat.le_refl _, 4, by omega, 0, rfl, h1, h2, h3, h4, rfl, rfl, rfl, rfl, rfl, fun j hj => absurd hj (Nat.not_lt_zero _)⟩
    · cases hm
      obtain ⟨t, ht, h1, h2, h3, h4, rfl, rfl, rfl, rfl, rfl, hj⟩ := h
      refine ⟨300, ?_⟩
      show (((4 : Int32) ≤ (nI t) → (([] : List MV) = [] ∧ mret (some .boolean) (sp_frm a d B) [.inr (.inr (some a))] S (some (.inl (1 : Int32))) S 0 0)) ∧ (¬ (4 : Int32) ≤ (nI t) → (isO S 2 a ∧ (0 = 0 ∧ (∃ (d_1 : Nat) (B_2 : List Nat), (By S a d_1 B_2) ∧ 0 ≤ 0 ∧ 0 ≤ 0 ∧ ((((bAt B_2 (((mI S 201 a) - (4 : Int32)) + (nI t))) = ((((crcN B (B.length - 4) ^^^ -1).toUInt32 >>> (((8 : Int32) * (nI t)).toUInt32 &&& Int32.toUInt32 31)).toInt32) &&& (255 : Int32)) → (∃ k1, k1 < k ∧ I_fr a B S k1 [(2, .inl ((nI t) + (1 : Int32))), (1, .inl (crcN B (B.length - 4) ^^^ -1)), (0, .inr (.inr (some a)))] [] S 0 0)) ∧ (¬ (bAt B_2 (((mI S 201 a) - (4 : Int32)) + (nI t))) = ((((crcN B (B.length - 4) ^^^ -1).toUInt32 >>> (((8 : Int32) * (nI t)).toUInt32 &&& Int32.toUInt32 31)).toInt32) &&& (255 : Int32)) → (([] : List MV) = [] ∧ mret (some .boolean) (sp_frm a d B) [.inr (.inr (some a))] S (some (.inl (0 : Int32))) S 0 0)))))))))
      have hl := hp.len
      rw [hp.2.2.2.1]
      have h9 : (4 : Int32) = nI 4 := rfl
      rw [h9, pk_sub (by omega), nI_add]
      refine if_le (by omega) (by omega) (fun h5 => ⟨rfl, Or.inr rfl, ⟨ret_t ⟨h1, h2, h3, h4, fun j q => hj j (by omega)⟩ rfl, rfl⟩, Nat.le_refl _, Nat.le_refl _⟩) (fun h5 => ⟨hp.1, rfl, d, B, hp, Nat.le_refl _, Nat.le_refl _, fun h6 => ⟨k - 1, by omega, t + 1, by omega, h1, h2, h3, h4, ?_, rfl, rfl, rfl, rfl, fun j q => ?_⟩, fun h6 => ⟨rfl, Or.inl rfl, ⟨ret_f (fun q => h6 (q.2.2.2.2 t h5)) rfl, rfl⟩, Nat.le_refl _, Nat.le_refl _⟩⟩)
      · rw [nI_1]
      · rcases Nat.lt_or_ge j t with z | z
        · exact hj j z
        · have : j = t := by omega
          subst this
          exact h6
theorem u_frm (l : Launch) : Us l yX1_isFramed cX1_isFramed 3 (some .boolean) 2 44 2 T_frm := by
  intro Rc Rs av S cs sl K Kx h
  unfold T_frm at h
  split at h
  · rename_i a_o
    obtain ⟨a, rfl, h_1⟩ := pa_of h
    obtain ⟨d, B, hp, hc, hs, hk⟩ := h_1
    refine ⟨(sp_frm a d B), c_frm l a d B, fun _ _ h9 => ⟨_, _, h9.1, h9.2.1⟩, ⟨rfl, hp⟩, hc, hs, fun v9 S' h8 => by
      obtain ⟨h7, h8⟩ := h8
      cases h7
      subst h8
      exact hk, fun _ _ q => q.elim⟩
  · exact h.elim
