/-! ===== PatchReader.inspect ===== -/
noncomputable def colsF (B : List Nat) : (Nat → Nat) × (Nat → Nat) := Classical.epsilon (fun u => Cols B u.1 u.2)
theorem colsF_eq {B : List Nat} {x y : Nat → Nat} (h : Cols B x y) : ∀ k, k < 5 → (colsF B).1 k = x k ∧ (colsF B).2 k = y k := by
  have e : Cols B (colsF B).1 (colsF B).2 := Classical.epsilon_spec (p := fun u : (Nat → Nat) × (Nat → Nat) => Cols B u.1 u.2) ⟨(x, y), h⟩
  exact ClK.uniq e.1 h.1
noncomputable def insU (B : List Nat) : Nat := ift (∃ x y, Cols B x y ∧ rdA B (x 0) (y 0) ≠ none) (upk B ((colsF B).2 4) ((colsF B).1 4)).2.1.length 0
theorem insU_eq {B L : List Nat} {x y : Nat → Nat} (h : Cols B x y) (hL : rdA B (x 0) (y 0) = some L) : insU B = (upk B (y 4) (x 4)).2.1.length := by
  have e := colsF_eq h 4 (by decide)
  unfold insU
  rw [e.1, e.2]
  exact ift_t ⟨x, y, h, by rw [hL]; exact fun z => by cases z⟩
theorem symsF_len {B : List Nat} : ∀ {t p : Nat} {l : List Int32}, symsF B t p = some l → l.length ≤ t
  | 0, p, l, h => by
    rw [symsF] at h
    injection h with h
    rw [← h]; exact Nat.le_refl 0
  | t + 1, p, l, h => by
    rw [symsF] at h
    split at h
    · split at h
      · cases h
      · cases e : symsF B t (p + wN (symAt B p)) with
        | none => rw [e] at h; cases h
        | some l2 =>
          rw [e] at h
          injection h with h
          have := symsF_len e
          rw [← h]
          exact Nat.succ_le_succ this
    · injection h with h
      rw [← h]; exact Nat.zero_le _
/-- the text that a message's last column holds -/
def rawT (U : Bool × List Nat × Nat) : List Nat := bPuts [] (U.2.1.map nI)
/-- the raw bytes of the packer, written anew -/
def RawP (S S' : MM) (rw dr dr' : Nat) (U : Bool × List Nat × Nat) : Prop := By S' rw dr' (rawT U) ∧ (dr' = dr ∨ dr' ∉ mL S) ∧ mI S' 202 rw = (if U.2.1.length ≤ 32768 then 0 else 1) ∧ mN S' dr' = capN U.2.1.length (mN S dr) 0
/-- columns, agents -/
def inA (S' : MM) (r ids : Nat) (B L : List Nat) (x y : Nat → Nat) : Prop := Cols B x y ∧ rdA B (x 0) (y 0) = some L ∧ L.length ≤ 256 ∧ (∀ a ∈ L, a < 256) ∧ mI S' 909 r = nI L.length ∧ ∀ k, k < L.length → eI S' ids k = nI (L.getD k 0)
/-- text, spans -/
def inB (B L : List Nat) (x y : Nat → Nat) (v : Int32) : Prop := (v = 3 ∧ ((upk B (y 4) (x 4)).1 = false ∨ syms (rawT (upk B (y 4) (x 4))) = none)) ∨ (∃ sy, (upk B (y 4) (x 4)).1 = true ∧ syms (rawT (upk B (y 4) (x 4))) = some sy ∧ ((v = 4 ∧ rdAll B L (y 1) (y 2) (y 3) (x 1) (x 2) (x 3) sy.length = none) ∨ (v = 0 ∧ ∃ A, rdAll B L (y 1) (y 2) (y 3) (x 1) (x 2) (x 3) sy.length = some A)))
section INK
variable {S S' : MM} {F : Nat → Nat × Nat} {j r pk ids fnd : Nat} {cu : Nat → Nat} {P : Nat → Prop} {qs : List Nat}
/-- the reader's own cells -/
theorem RD.own (h : RD S F j r pk cu ids fnd) {b : Nat} (hb : b = r ∨ b = ids ∨ b = fnd ∨ ∃ k, k < 6 ∧ b = cu k) : (F b).1 = j := by
  rcases hb with e | e | e | ⟨k, hk, e⟩
  · rw [e, h.2.1]
  · rw [e, h.2.2.2.2.2.2.2.1]
  · rw [e, h.2.2.2.2.2.2.2.2.2.2.2.1]
  · rw [e, (h.2.2.2.1 k hk).2.2]
end INK
def inW (F : Nat → Nat × Nat) (j rw dr : Nat) (b : Nat) : Prop := (F b).1 = j ∨ b = rw ∨ b = dr
def inQ (S S' : MM) (F : Nat → Nat × Nat) (j r pk : Nat) (cu : Nat → Nat) (ids fnd : Nat) (B : List Nat) (rw dr : Nat) (v : Int32) : Prop := RD S' F j r pk cu ids fnd ∧ ((v = 2 ∧ Keep (fun b => (F b).1 = j) S S' ∧ ∀ x y, Cols B x y → rdA B (x 0) (y 0) = none) ∨ (∃ x y L dr', Keep (inW F j rw dr) S S' ∧ inA S' r ids B L x y ∧ RawP S S' rw dr dr' (upk B (y 4) (x 4)) ∧ inB B L x y v))
def I_in17 (r m : Nat) (F : Nat → Nat × Nat) (j pk : Nat) (cu : Nat → Nat) (ids fnd : Nat) (B : List Nat) (S : MM) (t : Nat) : KT := fun lo sk S1 cs sl => ∃ x y L e, t = 2 ∧ RD S1 F j r pk cu ids fnd ∧ Keep (fun b => (F b).1 = j) S S1 ∧ inA S1 r ids B L x y ∧ mJ S1 919 r = lZ e ∧ (∀ k, 1 ≤ k → k < 5 → Cu S1 (cu (k + 1)) m (x k) (y k)) ∧ lo = [(0, .inr (.inr (some r)))] ∧ sk = [] ∧ cs = 0 ∧ sl = 0
noncomputable def inS (U : Bool × List Nat × Nat) : Int32 := if U.1 = true then cntS (syms (rawT U)) 0 else -1
def I_in46 (r m : Nat) (F : Nat → Nat × Nat) (j pk : Nat) (cu : Nat → Nat) (ids fnd : Nat) (B : List Nat) (rw dr : Nat) (S : MM) (t : Nat) : KT := fun lo sk S1 cs sl => ∃ x y L e dr', t = 1 ∧ RD S1 F j r pk cu ids fnd ∧ Keep (inW F j rw dr) S S1 ∧ inA S1 r ids B L x y ∧ RawP S S1 rw dr dr' (upk B (y 4) (x 4)) ∧ mJ S1 919 r = lZ e ∧ (∀ k, 1 ≤ k → k < 4 → Cu S1 (cu (k + 1)) m (x k) (y k)) ∧ lo = [(2, .inl (inS (upk B (y 4) (x 4)))), (0, .inr (.inr (some r)))] ∧ sk = [] ∧ cs = addNC (upk B (y 4) (x 4)).2.1.length (mN S dr) 0 ∧ sl = addNS (upk B (y 4) (x 4)).2.1.length (mN S dr) 0
def T_rinsp : TR := fun Rc Rs av S cs sl K _Kx => match av with
  | [.inr (.inr r_o), .inr (.inr m_o)] => pa r_o fun r => (pa m_o fun m => (∃ (F : Nat → Nat × Nat) (j pk : Nat) (cu : Nat → Nat) (ids fnd d : Nat) (B : List Nat) (rw dr : Nat) (R : List Nat) (e : Int), (RD S F j r pk cu ids fnd ∧ By S m d B ∧ 7 ≤ B.length ∧ B.length ≤ 32768 ∧ (F m).1 ≠ j ∧ (F d).1 ≠ j ∧ isO S 8 pk ∧ (F pk).1 ≠ j ∧ mR S 800 pk = some rw ∧ By S rw dr R ∧ (F rw).1 ≠ j ∧ (F dr).1 ≠ j ∧ m ≠ rw ∧ d ≠ dr ∧ mJ S 919 r = lZ e) ∧ cs + (addNC (insU B) (mN S dr) 0) ≤ Rc ∧ sl + (addNS (insU B) (mN S dr) 0) ≤ Rs ∧ (∀ (v : Int32) (S' : MM), (inQ S S' F j r pk cu ids fnd B rw dr v) → K (some (.inl v)) S' (cs + (addNC (insU B) (mN S dr) 0)) (sl + (addNS (insU B) (mN S dr) 0)))))
  | _ => False
noncomputable def sp_rinsp (r : Nat) (m : Nat) (F : Nat → Nat × Nat) (j pk : Nat) (cu : Nat → Nat) (ids fnd d : Nat) (B : List Nat) (rw dr : Nat) (R : List Nat) (e : Int) : Sp := (fun av S => av = [.inr (.inr (some r)), .inr (.inr (some m))] ∧ (RD S F j r pk cu ids fnd ∧ By S m d B ∧ 7 ≤ B.length ∧ B.length ≤ 32768 ∧ (F m).1 ≠ j ∧ (F d).1 ≠ j ∧ isO S 8 pk ∧ (F pk).1 ≠ j ∧ mR S 800 pk = some rw ∧ By S rw dr R ∧ (F rw).1 ≠ j ∧ (F dr).1 ≠ j ∧ m ≠ rw ∧ d ≠ dr ∧ mJ S 919 r = lZ e), fun _ S => addNC (insU B) (mN S dr) 0, fun _ S => addNS (insU B) (mN S dr) 0, fun _ S rv S' => ∃ v, rv = (some (.inl v)) ∧ (inQ S S' F j r pk cu ids fnd B rw dr v), fun _ _ _ _ => False)
def tX8_inspect : CD := [(0, .aload_n 0), (1, .aload_n 1), (2, .invokevirtual 83), (5, .ifCond .eq 10), (8, .aload_n 0), (9, .invokevirtual 87), (12, .ifCond .ne 5), (15, .iconst 2), (16, .ireturn), (17, .aload_n 0), (18, .getfield 79), (21, .aload_n 0), (22, .getfield 30), (25, .invokevirtual 91), (28, .ifCond .eq 16), (31, .aload_n 0), (32, .getfield 79), (35, .getfield 97), (38, .invokevirtual 101), (41, .goto 4), (44, .iconst (-1)), (45, .istore_n 2), (46, .iload_n 2), (47, .iconst (-1)), (48, .if_icmp .ne 5), (51, .iconst 3), (52, .ireturn), (53, .aload_n 0), (54, .iload_n 2), (55, .invokevirtual 107), (58, .ifCond .eq 7), (61, .iconst 0), (62, .goto 4), (65, .iconst 4), (66, .ireturn)]
set_option maxRecDepth 100000 in
theorem kX8_inspect : chk cX8_inspect tX8_inspect = true := by decide +kernel
theorem vX8_inspect_83 : ∀ w ∈ ([.methodLink RX8 83 yX8_openColumns, .instanceMethod yX8_openColumns, .selects yX8_openColumns.cls yX8_openColumns yX8_openColumns, .initialized yX8_openColumns.cls, .code yX8_openColumns cX8_openColumns 2 (some .boolean)] : List Cond), w ∈ lw_good := List.forall_mem_cons.mpr ⟨mgd 1496 (by decide +kernel) (by decide +kernel), List.forall_mem_cons.mpr ⟨mgd 1498 (by decide +kernel) (by decide +kernel), List.forall_mem_cons.mpr ⟨mgd 38 (by decide +kernel) (by decide +kernel), List.forall_mem_cons.mpr ⟨mgd 134 (by decide +kernel) (by decide +kernel), List.forall_mem_cons.mpr ⟨mgd 1499 (by decide +kernel) (by decide +kernel), fun _ h => absurd h List.not_mem_nil⟩⟩⟩⟩⟩
theorem vX8_inspect_87 : ∀ w ∈ ([.methodLink RX8 87 yX8_readAgents, .instanceMethod yX8_readAgents, .selects yX8_readAgents.cls yX8_readAgents yX8_readAgents, .initialized yX8_readAgents.cls, .code yX8_readAgents cX8_readAgents 3 (some .boolean)] : List Cond), w ∈ lw_good := List.forall_mem_cons.mpr ⟨mgd 1508 (by decide +kernel) (by decide +kernel), List.forall_mem_cons.mpr ⟨mgd 1510 (by decide +kernel) (by decide +kernel), List.forall_mem_cons.mpr ⟨mgd 39 (by decide +kernel) (by decide +kernel), List.forall_mem_cons.mpr ⟨mgd 134 (by decide +kernel) (by decide +kernel), List.forall_mem_cons.mpr ⟨mgd 1511 (by decide +kernel) (by decide +kernel), fun _ h => absurd h List.not_mem_nil⟩⟩⟩⟩⟩
theorem vX8_inspect_91 : ∀ w ∈ ([.methodLink RX8 91 yX7_unpack, .instanceMethod yX7_unpack, .selects yX7_unpack.cls yX7_unpack yX7_unpack, .initialized yX7_unpack.cls, .code yX7_unpack cX7_unpack 6 (some .boolean)] : List Cond), w ∈ lw_good := List.forall_mem_cons.mpr ⟨mgd 1513 (by decide +kernel) (by decide +kernel), List.forall_mem_cons.mpr ⟨mgd 1514 (by decide +kernel) (by decide +kernel), List.forall_mem_cons.mpr ⟨mgd 1515 (by decide +kernel) (by decide +kernel), List.forall_mem_cons.mpr ⟨mgd 132 (by decide +kernel) (by decide +kernel), List.forall_mem_cons.mpr ⟨mgd 1516 (by decide +kernel) (by decide +kernel), fun _ h => absurd h List.not_mem_nil⟩⟩⟩⟩⟩
theorem vX8_inspect_101 : ∀ w ∈ ([.methodLink RX8 101 yX1_countSymbols, .instanceMethod yX1_countSymbols, .selects yX1_countSymbols.cls yX1_countSymbols yX1_countSymbols, .initialized yX1_countSymbols.cls, .code yX1_countSymbols cX1_countSymbols 4 (some .int)] : List Cond), w ∈ lw_good := List.forall_mem_cons.mpr ⟨mgd 1529 (by decide +kernel) (by decide +kernel), List.forall_mem_cons.mpr ⟨mgd 832 (by decide +kernel) (by decide +kernel), List.forall_mem_cons.mpr ⟨mgd 833 (by decide +kernel) (by decide +kernel), List.forall_mem_cons.mpr ⟨mgd 122 (by decide +kernel) (by decide +kernel), List.forall_mem_cons.mpr ⟨mgd 834 (by decide +kernel) (by decide +kernel), fun _ h => absurd h List.not_mem_nil⟩⟩⟩⟩⟩
theorem vX8_inspect_107 : ∀ w ∈ ([.methodLink RX8 107 yX8_areSpansSound, .instanceMethod yX8_areSpansSound, .selects yX8_areSpansSound.cls yX8_areSpansSound yX8_areSpansSound, .initialized yX8_areSpansSound.cls, .code yX8_areSpansSound cX8_areSpansSound 4 (some .boolean)] : List Cond), w ∈ lw_good := List.forall_mem_cons.mpr ⟨mgd 1530 (by decide +kernel) (by decide +kernel), List.forall_mem_cons.mpr ⟨mgd 1532 (by decide +kernel) (by decide +kernel), List.forall_mem_cons.mpr ⟨mgd 41 (by decide +kernel) (by decide +kernel), List.forall_mem_cons.mpr ⟨mgd 134 (by decide +kernel) (by decide +kernel), List.forall_mem_cons.mpr ⟨mgd 1533 (by decide +kernel) (by decide +kernel), fun _ h => absurd h List.not_mem_nil⟩⟩⟩⟩⟩
set_option maxRecDepth 100000 in
set_option maxHeartbeats 2000000 in
theorem c_rinsp (l : Launch) : ∀ (r : Nat) (m : Nat) (F : Nat → Nat × Nat) (j pk : Nat) (cu : Nat → Nat) (ids fnd d : Nat) (B : List Nat) (rw dr : Nat) (R : List Nat) (e : Int), Ct l yX8_inspect cX8_inspect 3 (some .int) 6 146 (sp_rinsp r m F j pk cu ids fnd d B rw dr R e) := by
  intro r m F j pk cu ids fnd d B rw dr R e
  refine Ct.of (fX8, nX8, aX8, iX8, lX8, [(83, 0, 2, 1, T_rop), (87, 0, 1, 1, T_rag), (91, 0, 2, 1, T_pupk), (101, 0, 1, 1, T_cnts), (107, 0, 2, 1, T_ras)], qX8, gX8, []) false tX8_inspect (fun _ S => look [(17, ([0], I_in17 r m F j pk cu ids fnd B S)), (46, ([2,0], I_in46 r m F j pk cu ids fnd B rw dr S))]) (by decide) (by decide) kX8_inspect ⟨_, _, rfl⟩ fX8_ok nX8_ok aX8_ok iX8_ok lX8_ok (fun p e R s m args below meth c Q D cy z r A C hR1 hR2 => List.forall_mem_cons.mpr ⟨cOK_use (fun _ _ _ _ _ _ _ _ h => let ⟨sp, h1, h2, h3⟩ := u_rop l _ _ _ _ _ _ _ _ h; ⟨sp, cOK_V C h1 vX8_inspect_83 ⟨by decide, by decide, by decide +kernel⟩ ⟨by rw [hR1]; decide, by rw [hR2]; decide⟩ (k := 9) (T := TX8) (N := 20) rfl (by decide) h2, h3⟩), List.forall_mem_cons.mpr ⟨cOK_use (fun _ _ _ _ _ _ _ _ h => let ⟨sp, h1, h2, h3⟩ := u_rag l _ _ _ _ _ _ _ _ h; ⟨sp, cOK_V C h1 vX8_inspect_87 ⟨by decide, by decide, by decide +kernel⟩ ⟨by rw [hR1]; decide, by rw [hR2]; decide⟩ (k := 9) (T := TX8) (N := 20) rfl (by decide) h2, h3⟩), List.forall_mem_cons.mpr ⟨cOK_use (fun _ _ _ _ _ _ _ _ h => let ⟨sp, h1, h2, h3⟩ := u_pupk l _ _ _ _ _ _ _ _ h; ⟨sp, cOK_V C h1 vX8_inspect_91 ⟨by decide, by decide, by decide +kernel⟩ ⟨by rw [hR1]; decide, by rw [hR2]; decide⟩ (k := 8) (T := TX7) (N := 5) rfl (by decide) h2, h3⟩), List.forall_mem_cons.mpr ⟨cOK_use (fun _ _ _ _ _ _ _ _ h => let ⟨sp, h1, h2, h3⟩ := u_cnts l _ _ _ _ _ _ _ _ h; ⟨sp, cOK_V C h1 vX8_inspect_101 ⟨by decide, by decide, by decide +kernel⟩ ⟨by rw [hR1]; decide, by rw [hR2]; decide⟩ (k := 2) (T := TX1) (N := 3) rfl (by decide) h2, h3⟩), List.forall_mem_cons.mpr ⟨cOK_use (fun _ _ _ _ _ _ _ _ h => let ⟨sp, h1, h2, h3⟩ := u_ras l _ _ _ _ _ _ _ _ h; ⟨sp, cOK_V C h1 vX8_inspect_107 ⟨by decide, by decide, by decide +kernel⟩ ⟨by rw [hR1]; decide, by rw [hR2]; decide⟩ (k := 9) (T := TX8) (N := 20) rfl (by decide) h2, h3⟩), fun _ h => absurd h List.not_mem_nil⟩⟩⟩⟩⟩) qX8_ok gX8_ok rfl ?_ ?_
  · rintro _ S ⟨rfl, hp⟩
    refine ⟨Nat.le_of_ble_eq_true rfl, 300, ?_⟩
    show (0 = 0 ∧ (∃ (F_1 : Nat → Nat × Nat) (j_2 pk_3 : Nat) (cu_4 : Nat → Nat) (ids_5 fnd_6 d_7 : Nat) (B_8 : List Nat), (RD S F_1 j_2 r pk_3 cu_4 ids_5 fnd_6 ∧ By S m d_7 B_8 ∧ 7 ≤ B_8.length ∧ B_8.length ≤ 32768 ∧ (F_1 m).1 ≠ j_2 ∧ (F_1 d_7).1 ≠ j_2) ∧ 0 ≤ addNC (insU B) (mN S dr) 0 ∧ 0 ≤ addNS (insU B) (mN S dr) 0 ∧ (∀ (x_10 : Int32) (S_9 : MM), (opQ S S_9 cu_4 m B_8 x_10) → ((x_10 = 0 → (([] : List MV) = [] ∧ mret (some .int) (sp_rinsp r m F j pk cu ids fnd d B rw dr R e) [.inr (.inr (some r)), .inr (.inr (some m))] S (some (.inl (2 : Int32))) S_9 0 0)) ∧ (¬ x_10 = 0 → (0 = 0 ∧ (∃ (F_11 : Nat → Nat × Nat) (j_12 pk_13 : Nat) (cu_14 : Nat → Nat) (ids_15 fnd_16 m_17 d_18 : Nat) (B_19 : List Nat) (x_20 y_21 : Nat), (RD S_9 F_11 j_12 r pk_13 cu_14 ids_15 fnd_16 ∧ Cu S_9 (cu_14 1) m_17 x_20 y_21 ∧ By S_9 m_17 d_18 B_19) ∧ 0 ≤ addNC (insU B) (mN S dr) 0 ∧ 0 ≤ addNS (insU B) (mN S dr) 0 ∧ (∀ (x_23 : Int32) (S_22 : MM), (raQ r ids_15 (cu_14 1) x_20 y_21 B_19 S_9 S_22 x_23) → ((¬ x_23 = 0 → (∃ k1, I_in17 r m F j pk cu ids fnd B S k1 [(0, .inr (.inr (some r)))] [] S_22 0 0)) ∧ (x_23 = 0 → (([] : List MV) = [] ∧ mret (some .int) (sp_rinsp r m F j pk cu ids fnd d B rw dr R e) [.inr (.inr (some r)), .inr (.inr (some m))] S (some (.inl (2 : Int32))) S_22 0 0)))))))))))
    obtain ⟨hR, hB, b1, b2, b3, b4, b5, b6, b7, b8, b9, b10, b11, b12, b13⟩ := hp
    refine ⟨rfl, F, j, pk, cu, ids, fnd, d, B, ⟨hR, hB, b1, b2, b3, b4⟩, Nat.zero_le _, Nat.zero_le _, fun v S2 hq => ?_⟩
    obtain ⟨k1, hq⟩ := hq
    have k2 : Keep (fun b => (F b).1 = j) S S2 := k1.mono (fun b _ w => hR.own (Or.inr (Or.inr (Or.inr w))))
    have hR2 := hR.kcu k1
    have hB2 : By S2 m d B := hB.keep k2 b3 b4
    rcases hq with ⟨e1, x, y, g1, g2⟩ | ⟨e1, g1⟩
    · refine ⟨fun w => absurd (e1.symm.trans w) (by decide), fun _ => ⟨rfl, F, j, pk, cu, ids, fnd, m, d, B, x 0, y 0, ⟨hR2, g2 0 (by decide), hB2⟩, Nat.zero_le _, Nat.zero_le _, fun v3 S3 h3 => ?_⟩⟩
      obtain ⟨w1, h3⟩ := h3
      have hR3 := w1.rd hR2 (by decide)
      have k3 : Keep (fun b => (F b).1 = j) S S3 := k2.trN w1.1 (fun b _ w => hR.own (w.elim Or.inl (fun w => w.elim (fun e => Or.inr (Or.inr (Or.inr ⟨1, by decide, e⟩))) (fun e => Or.inr (Or.inl e)))))
      rcases h3 with ⟨e3, L, l1, l2, l3, l4, l5⟩ | ⟨e3, l1⟩
      · refine ⟨fun _ => ⟨2, x, y, L, e, rfl, hR3, k3, ⟨g1, l1, l2, l3, l4, l5⟩, ?_, fun k hk1 hk2 => ?_, rfl, rfl, rfl, rfl⟩, fun w => absurd (e3.symm.trans w) (by decide)⟩
        · rw [w1.2.2.2 919 (by decide), (k1.2.1 r hR.1.1 (hR.ncu hR.1 (by decide))).2.2.1 919]; exact b13
        · exact w1.cuk hR2 (a := k + 1) (by omega) (fun w => w.elim (fun e => hR.cne (a := k + 1) (b := 1) (by omega) (by decide) (by omega) e) (fun e => isO_ne (hR.2.2.2.1 (k + 1) (by omega)).2.1 hR.2.2.2.2.2.1 (by decide) e)) (g2 k hk2)
      · refine ⟨fun w => absurd e3 w, fun _ => ⟨rfl, trivial, ⟨2, rfl, hR3, Or.inl ⟨rfl, k3, fun x' y' hc => ?_⟩⟩, Nat.zero_le _, Nat.zero_le _⟩⟩
        have u := ClK.uniq hc.1 g1.1 0 (by decide)
        rw [u.1, u.2]; exact l1
    · exact ⟨fun _ => ⟨rfl, trivial, ⟨2, rfl, hR2, Or.inl ⟨rfl, k2, fun x y hc => absurd hc (g1 x y)⟩⟩, Nat.zero_le _, Nat.zero_le _⟩, fun w => absurd e1 w⟩
  · intro av S hpre pc I hI k lo st S1 cs sl h
    obtain ⟨rfl, hp⟩ := hpre
    have hm := look_in hI
    simp only [List.mem_cons, List.not_mem_nil, or_false] at hm
    rcases hm with hm | hm
    · cases hm
      obtain ⟨x, y, L, e1, rfl, hR1, k1, hA, x3, x4, rfl, rfl, rfl, rfl⟩ := h
      obtain ⟨hR, hB, b1, b2, b3, b4, b5, b6, b7, b8, b9, b10, b11, b12, b13⟩ := hp
      have hU := insU_eq hA.1 hA.2.1
      have cC : addNC (upk B (y 4) (x 4)).2.1.length (mN S dr) 0 ≤ addNC (insU B) (mN S dr) 0 := by rw [hU]; exact Nat.le_refl _
      have cZ : addNS (upk B (y 4) (x 4)).2.1.length (mN S dr) 0 ≤ addNS (insU B) (mN S dr) 0 := by rw [hU]; exact Nat.le_refl _
      refine ⟨300, ?_⟩
      show (isO S1 9 r ∧ (isO S1 9 r ∧ (0 = 0 ∧ ((pa (mR S1 900 r) fun a_1 => ((pa (mR S1 906 r) fun a_2 => (∃ (r_3 d_4 s_5 e_6 p_7 q_8 : Nat) (R_9 B_10 : List Nat), (isO S1 8 a_1 ∧ mR S1 800 a_1 = some r_3 ∧ By S1 r_3 d_4 R_9 ∧ Cu S1 a_2 s_5 p_7 q_8 ∧ By S1 s_5 e_6 B_10 ∧ s_5 ≠ r_3 ∧ e_6 ≠ d_4) ∧ 0 + (addNC (upk B_10 q_8 p_7).2.1.length (mN S1 d_4) 0) ≤ addNC (insU B) (mN S dr) 0 ∧ 0 + (addNS (upk B_10 q_8 p_7).2.1.length (mN S1 d_4) 0) ≤ addNS (insU B) (mN S dr) 0 ∧ (∀ (S_11 : MM), (upP S1 S_11 a_2 r_3 d_4 s_5 q_8 (upk B_10 q_8 p_7)) → (((tf ((upk B_10 q_8 p_7).1 = true)) = 0 → (∃ k1, k1 < 2 ∧ I_in46 r m F j pk cu ids fnd B rw dr S k1 [(2, .inl (-1 : Int32)), (0, .inr (.inr (some r)))] [] S_11 (0 + (addNC (upk B_10 q_8 p_7).2.1.length (mN S1 d_4) 0)) (0 + (addNS (upk B_10 q_8 p_7).2.1.length (mN S1 d_4) 0)))) ∧ (¬ (tf ((upk B_10 q_8 p_7).1 = true)) = 0 → (isO S_11 9 r ∧ (pa (mR S_11 900 r) fun a_12 => isO S_11 8 a_12 ∧ (0 = 0 ∧ ((pa (mR S_11 800 a_12) fun a_13 => (∃ (d_14 : Nat) (B_15 : List Nat), (By S_11 a_13 d_14 B_15) ∧ 0 + (addNC (upk B_10 q_8 p_7).2.1.length (mN S1 d_4) 0) ≤ addNC (insU B) (mN S dr) 0 ∧ 0 + (addNS (upk B_10 q_8 p_7).2.1.length (mN S1 d_4) 0) ≤ addNS (insU B) (mN S dr) 0 ∧ ((∃ k1, k1 < 2 ∧ I_in46 r m F j pk cu ids fnd B rw dr S k1 [(2, .inl (cntS (syms B_15) 0)), (0, .inr (.inr (some r)))] [] S_11 (0 + (addNC (upk B_10 q_8 p_7).2.1.length (mN S1 d_4) 0)) (0 + (addNS (upk B_10 q_8 p_7).2.1.length (mN S1 d_4) 0)))))))))))))))))))))
      have kp : isO S1 8 pk := k1.isO b5
      have kr : mR S1 800 pk = some rw := ((k1.2.1 pk b5.1 b6).2.1 800).trans b7
      have hW1 : By S1 rw dr R := b8.keep k1 b9 b10
      have hB1 : By S1 m d B := hB.keep k1 b3 b4
      have nd : mN S1 dr = mN S dr := (k1.1 dr b8.2.2.1.1).2.2
      rw [hU]
      refine ⟨hR1.1, hR1.1, rfl, pa_i hR1.2.2.1 (pa_i (hR1.2.2.2.1 5 (by decide)).1 ⟨rw, dr, m, d, x 4, y 4, R, B, ⟨kp, kr, hW1, x4 4 (by decide) (by decide), hB1, b11, b12⟩, by rw [nd, Nat.zero_add]; exact Nat.le_refl _, by rw [nd, Nat.zero_add]; exact Nat.le_refl _, fun S3 h3 => ?_⟩)⟩
      rw [nd, Nat.zero_add, Nat.zero_add]
      obtain ⟨dr', ⟨p1, p2, p3, p4, p5⟩, p6⟩ := h3
      have ro : ∀ {b q}, isO S1 q b → q ≠ 2 → q ≠ 16 → q ≠ 3 → ¬ (b = rw ∨ upW (cu 5) rw dr b) := fun hb q1 q2 q3 w => w.elim (fun e => isO_ne hb hW1.1 q1 e) (fun w => w.elim (fun e => isO_ne hb hW1.1 q1 e) (fun w => w.elim (fun e => isO_ne hb hW1.2.2.1 q2 e) (fun e => isO_ne hb (hR1.2.2.2.1 5 (by decide)).2.1 q3 e)))
      have k13 : Keep (fun b => b = rw ∨ upW (cu 5) rw dr b) S1 S3 := (Keep.sI (P := fun b => b = rw ∨ upW (cu 5) rw dr b) (Keep.sI (P := fun b => b = rw ∨ upW (cu 5) rw dr b) Keep.rf (Or.inl rfl)) (Or.inl rfl)).tr (p2.mono (fun b _ w => Or.inr w))
      have nr := ro hR1.1 (by decide) (by decide) (by decide)
      have kr3 := k13.2.1 r hR1.1.1 nr
      have hR3 : RD S3 F j r pk cu ids fnd := hR1.keep k13 (fun q _ => kr3.2.1 q)
      have k3 : Keep (inW F j rw dr) S S3 := (k1.mono (fun b _ w => Or.inl w)).trN k13 (fun b _ w => w.elim (fun e => Or.inr (Or.inl e)) (fun w => w.elim (fun e => Or.inr (Or.inl e)) (fun w => w.elim (fun e => Or.inr (Or.inr e)) (fun e => Or.inl (hR.own (Or.inr (Or.inr (Or.inr ⟨5, by decide, e⟩))))))))
      have hi3 : eI S3 ids = eI S1 ids := (k13.2.1 ids hR1.2.2.2.2.2.1.1 (ro hR1.2.2.2.2.2.1 (by decide) (by decide) (by decide))).2.2.2.1
      have hA3 : inA S3 r ids B L x y := ⟨hA.1, hA.2.1, hA.2.2.1, hA.2.2.2.1, (kr3.1 909).trans hA.2.2.2.2.1, fun k hk => by rw [hi3]; exact hA.2.2.2.2.2 k hk⟩
      have hw3 : RawP S S3 rw dr dr' (upk B (y 4) (x 4)) := ⟨p1, p3.imp id (fun w z => w (k1.1 _ z).1), ?_, ?_⟩
      · have cu3 : ∀ k, 1 ≤ k → k < 4 → Cu S3 (cu (k + 1)) m (x k) (y k) := fun k hk1 hk2 => by
          have c := x4 k hk1 (by omega)
          exact c.keep k13 (fun w => w.elim (fun e => isO_ne c.1 hW1.1 (by decide) e) (fun w => w.elim (fun e => isO_ne c.1 hW1.1 (by decide) e) (fun w => w.elim (fun e => isO_ne c.1 hW1.2.2.1 (by decide) e) (fun e => hR.cne (a := k + 1) (b := 5) (by omega) (by decide) (by omega) e))))
        have fin : ∀ z, z = inS (upk B (y 4) (x 4)) → ∃ k1, k1 < 2 ∧ I_in46 r m F j pk cu ids fnd B rw dr S k1 [(2, .inl z), (0, .inr (.inr (some r)))] [] S3 (addNC (upk B (y 4) (x 4)).2.1.length (mN S dr) 0) (addNS (upk B (y 4) (x 4)).2.1.length (mN S dr) 0) := fun z hz => ⟨1, by decide, x, y, L, e1, dr', rfl, hR3, k3, hA3, hw3, (kr3.2.2.1 919).trans x3, cu3, by rw [hz], rfl, rfl, rfl⟩
        have kp3 := k13.2.1 pk kp.1 (ro kp (by decide) (by decide) (by decide))
        refine ⟨fun w => fin _ ?_, fun w => ⟨hR3.1, pa_i hR3.2.2.1 ⟨k13.isO kp, rfl, pa_i ((kp3.2.1 800).trans kr) ⟨dr', _, p1, Nat.le_refl _, Nat.le_refl _, fin _ ?_⟩⟩⟩⟩
        · unfold inS; rw [if_neg (tf_0 w)]
        · unfold inS; rw [if_pos (tf_1 w)]; rfl
      · rw [p4, List.length_map, List.length_nil, Nat.zero_add]
        by_cases q : (upk B (y 4) (x 4)).2.1.length ≤ 32768
        · rw [if_pos q, if_pos q]; exact mI_sIs
        · rw [if_neg q, if_neg q]
      · rw [p5, List.length_map, ← nd]; rfl
    · cases hm
      obtain ⟨x, y, L, e1, dr', rfl, hR1, k1, hA, hw, x3, x4, rfl, rfl, rfl, rfl⟩ := h
      obtain ⟨hR, hB, b1, b2, b3, b4, b5, b6, b7, b8, b9, b10, b11, b12, b13⟩ := hp
      have hU := insU_eq hA.1 hA.2.1
      have cC : addNC (upk B (y 4) (x 4)).2.1.length (mN S dr) 0 ≤ addNC (insU B) (mN S dr) 0 := by rw [hU]; exact Nat.le_refl _
      have cZ : addNS (upk B (y 4) (x 4)).2.1.length (mN S dr) 0 ≤ addNS (insU B) (mN S dr) 0 := by rw [hU]; exact Nat.le_refl _
      refine ⟨300, ?_⟩
      show ((¬ (inS (upk B (y 4) (x 4))) = (-1 : Int32) → (0 = 0 ∧ (∃ (n_1 : Nat), inS (upk B (y 4) (x 4)) = nI n_1 ∧ (∃ (F_2 : Nat → Nat × Nat) (j_3 pk_4 : Nat) (cu_5 : Nat → Nat) (ids_6 fnd_7 m_8 d_9 : Nat) (B_10 L_11 : List Nat) (qs_12 qp_13 qo_14 ps_15 pp_16 po_17 : Nat) (e_18 : Int), (RD S1 F_2 j_3 r pk_4 cu_5 ids_6 fnd_7 ∧ By S1 m_8 d_9 B_10 ∧ RdM S1 r m_8 ids_6 cu_5 L_11 qs_12 qp_13 qo_14 (ps_15, pp_16, po_17, e_18) ∧ (∀ a ∈ L_11, a < 256) ∧ n_1 < 2147483648) ∧ addNC (upk B (y 4) (x 4)).2.1.length (mN S dr) 0 ≤ addNC (insU B) (mN S dr) 0 ∧ addNS (upk B (y 4) (x 4)).2.1.length (mN S dr) 0 ≤ addNS (insU B) (mN S dr) 0 ∧ (∀ (x_20 : Int32) (S_19 : MM), (asQ r cu_5 L_11 qs_12 qp_13 qo_14 ps_15 pp_16 po_17 n_1 B_10 S1 S_19 x_20) → ((x_20 = 0 → (([] : List MV) = [] ∧ mret (some .int) (sp_rinsp r m F j pk cu ids fnd d B rw dr R e) [.inr (.inr (some r)), .inr (.inr (some m))] S (some (.inl (4 : Int32))) S_19 (addNC (upk B (y 4) (x 4)).2.1.length (mN S dr) 0) (addNS (upk B (y 4) (x 4)).2.1.length (mN S dr) 0))) ∧ (¬ x_20 = 0 → (([] : List MV) = [] ∧ mret (some .int) (sp_rinsp r m F j pk cu ids fnd d B rw dr R e) [.inr (.inr (some r)), .inr (.inr (some m))] S (some (.inl (0 : Int32))) S_19 (addNC (upk B (y 4) (x 4)).2.1.length (mN S dr) 0) (addNS (upk B (y 4) (x 4)).2.1.length (mN S dr) 0))))))))) ∧ ((inS (upk B (y 4) (x 4))) = (-1 : Int32) → (([] : List MV) = [] ∧ mret (some .int) (sp_rinsp r m F j pk cu ids fnd d B rw dr R e) [.inr (.inr (some r)), .inr (.inr (some m))] S (some (.inl (3 : Int32))) S1 (addNC (upk B (y 4) (x 4)).2.1.length (mN S dr) 0) (addNS (upk B (y 4) (x 4)).2.1.length (mN S dr) 0))))
      rw [hU]
      have hW : By S1 rw dr' (rawT (upk B (y 4) (x 4))) := hw.1
      have hB1 : By S1 m d B := hB.keep k1 (fun w => w.elim b3 (fun w => w.elim b11 (fun e => isO_ne hB.1 b8.2.2.1 (by decide) e))) (fun w => w.elim b4 (fun w => w.elim (fun e => isO_ne hB.2.2.1 b8.1 (by decide) e) b12))
      refine ⟨fun w => ?_, fun w => ⟨rfl, trivial, ⟨3, rfl, hR1, Or.inr ⟨x, y, L, dr', k1, hA, hw, Or.inl ⟨rfl, ?_⟩⟩⟩, cC, cZ⟩⟩
      · unfold inS at w
        by_cases ut : (upk B (y 4) (x 4)).1 = true
        · rw [if_pos ut] at w
          cases hs : syms (rawT (upk B (y 4) (x 4))) with
          | none => rw [hs] at w; exact absurd rfl w
          | some sy =>
            have hl : sy.length ≤ (rawT (upk B (y 4) (x 4))).length := symsF_len hs
            have hl2 := hW.len
            refine ⟨rfl, sy.length, ?_, F, j, pk, cu, ids, fnd, m, d, B, L, y 1, y 2, y 3, x 1, x 2, x 3, e1, ⟨hR1, hB1, ⟨x4 1 (by decide) (by decide), x4 2 (by decide) (by decide), x4 3 (by decide) (by decide), hA.2.2.2.2.1, hA.2.2.1, hA.2.2.2.2.2, x3⟩, hA.2.2.2.1, by omega⟩, Nat.le_refl _, Nat.le_refl _, fun v S4 h4 => ?_⟩
            · unfold inS
              rw [if_pos ut, hs]
              exact congrArg nI (Nat.zero_add _)
            · obtain ⟨w1, h4⟩ := h4
              have hR4 := w1.rd hR1 (by decide)
              have hCS : ∀ b, CuS cu b → ∃ k, k < 6 ∧ b = cu k := fun b w => w.elim (fun e => ⟨2, by decide, e⟩) (fun w => w.elim (fun e => ⟨3, by decide, e⟩) (fun e => ⟨4, by decide, e⟩))
              have k4 : Keep (inW F j rw dr) S S4 := k1.trN w1.1 (fun b _ w => Or.inl (hR.own (w.elim Or.inl (fun w => Or.inr (Or.inr (Or.inr (hCS b w)))))))
              have hA4 : inA S4 r ids B L x y := ⟨hA.1, hA.2.1, hA.2.2.1, hA.2.2.2.1, (w1.2.1 909 (by decide)).trans hA.2.2.2.2.1, fun k hk => by rw [w1.idk hR1 hCS]; exact hA.2.2.2.2.2 k hk⟩
              have nrw : ¬ (rw = r ∨ CuS cu rw) := fun w => w.elim (fun e => isO_ne hW.1 hR1.1 (by decide) e) (fun w => by obtain ⟨k, hk, e⟩ := hCS _ w; exact isO_ne hW.1 (hR1.2.2.2.1 k hk).2.1 (by decide) e)
              have hw4 : RawP S S4 rw dr dr' (upk B (y 4) (x 4)) := ⟨w1.byc hR1 hw.1 hCS, hw.2.1, ((w1.1.2.1 rw hW.1.1 nrw).1 202).trans hw.2.2.1, ((w1.1.1 dr' hW.2.2.1.1).2.2).trans hw.2.2.2⟩
              rcases h4 with ⟨e4, A, g⟩ | ⟨e4, g⟩
              · exact ⟨fun w => absurd (e4.symm.trans w) (by decide), fun _ => ⟨rfl, trivial, ⟨0, rfl, hR4, Or.inr ⟨x, y, L, dr', k4, hA4, hw4, Or.inr ⟨sy, ut, hs, Or.inr ⟨rfl, A, g⟩⟩⟩⟩, cC, cZ⟩⟩
              · exact ⟨fun _ => ⟨rfl, trivial, ⟨4, rfl, hR4, Or.inr ⟨x, y, L, dr', k4, hA4, hw4, Or.inr ⟨sy, ut, hs, Or.inl ⟨rfl, g⟩⟩⟩⟩, cC, cZ⟩, fun w => absurd e4 w⟩
        · rw [if_neg ut] at w; exact absurd rfl w
      · unfold inS at w
        by_cases ut : (upk B (y 4) (x 4)).1 = true
        · rw [if_pos ut] at w
          cases hs : syms (rawT (upk B (y 4) (x 4))) with
          | none => exact Or.inr rfl
          | some sy =>
            rw [hs] at w
            have hl : sy.length ≤ (rawT (upk B (y 4) (x 4))).length := symsF_len hs
            have hl2 := hW.len
            have h1 := nI_pos (n := 0 + sy.length) (by omega)
            rw [show nI (0 + sy.length) = -1 from w] at h1
            exact absurd (by decide) h1
        · exact Or.inl (by cases h9 : (upk B (y 4) (x 4)).1; rfl; exact absurd h9 ut)
theorem u_rinsp (l : Launch) : Us l yX8_inspect cX8_inspect 3 (some .int) 6 146 9 T_rinsp := by
  intro Rc Rs av S cs sl K Kx h
  unfold T_rinsp at h
  split at h
  · rename_i r_o m_o
    obtain ⟨r, rfl, h_1⟩ := pa_of h
    obtain ⟨m, rfl, h_2⟩ := pa_of h_1
    obtain ⟨F, j, pk, cu, ids, fnd, d, B, rw, dr, R, e, hp, hc, hs, hk⟩ := h_2
    refine ⟨(sp_rinsp r m F j pk cu ids fnd d B rw dr R e), c_rinsp l r m F j pk cu ids fnd d B rw dr R e, fun _ _ h9 => ⟨_, _, h9.1, h9.2.1.1⟩, ⟨rfl, hp⟩, hc, hs, fun v9 S' h8 => by
      obtain ⟨v8, h7, h8⟩ := h8
      cases h7
      exact hk _ _ h8, fun _ _ q => q.elim⟩
  · exact h.elim
