/-! ===== PatchReader.readParents ===== -/
def prR (B : List Nat) (q n : Nat) : Nat → List (Nat × Nat) → Nat → Option (List (Nat × Nat) × Nat)
  | 0, L, p => some (L, p)
  | k + 1, L, p => match (vint B q p).1 with
    | none => none
    | some a => if a < n then (match (vint B q (vint B q p).2).1 with
      | none => none
      | some b => prR B q n k (L ++ [(a, b)]) (vint B q (vint B q p).2).2) else none
def rdP (B : List Nat) (n q p : Nat) : Option (Nat × List (Nat × Nat) × Nat) := (vint B q p).1.bind fun c => (prR B q n (c - 1) [] (vint B q p).2).bind fun z => some (c, z.1, z.2)
section RDPS
variable {B : List Nat} {q n p k a b c p' : Nat} {L : List (Nat × Nat)}
theorem prR_1 (h : (vint B q p).1 = none) : prR B q n (k + 1) L p = none := by rw [prR, h]
theorem prR_2 (h : (vint B q p).1 = some a) (hn : ¬ a < n) : prR B q n (k + 1) L p = none := by rw [prR, h]; exact if_neg hn
theorem prR_3 (h : (vint B q p).1 = some a) (h2 : (vint B q (vint B q p).2).1 = none) : prR B q n (k + 1) L p = none := by
  rw [prR, h]
  by_cases hn : a < n
  · exact (if_pos hn).trans (by rw [h2])
  · exact if_neg hn
theorem prR_4 (h : (vint B q p).1 = some a) (hn : a < n) (h2 : (vint B q (vint B q p).2).1 = some b) : prR B q n (k + 1) L p = prR B q n k (L ++ [(a, b)]) (vint B q (vint B q p).2).2 := by
  rw [prR, h]
  exact (if_pos hn).trans (by rw [h2])
theorem rdP_1 (h : (vint B q p).1 = none) : rdP B n q p = none := by unfold rdP; rw [h]; rfl
theorem rdP_2 (h : (vint B q p).1 = some c) (h2 : prR B q n (c - 1) [] (vint B q p).2 = none) : rdP B n q p = none := by
  unfold rdP
  rw [h]
  show (prR B q n (c - 1) [] (vint B q p).2).bind _ = none
  rw [h2]; rfl
theorem rdP_3 (h : (vint B q p).1 = some c) (h2 : prR B q n (c - 1) [] (vint B q p).2 = some (L, p')) : rdP B n q p = some (c, L, p') := by
  unfold rdP
  rw [h]
  show (prR B q n (c - 1) [] (vint B q p).2).bind _ = _
  rw [h2]; rfl
end RDPS
theorem RW.by {S S1 : MM} {P : Nat → Prop} {qs : List Nat} {r m d : Nat} {B : List Nat} (h : RW P qs r S S1) (hr : isO S 9 r) (hB : By S m d B) (hP : ∀ b, P b → ∃ k, isO S k b ∧ k ≠ 2 ∧ k ≠ 16) : By S1 m d B :=
  hB.keep h.1 (fun z => z.elim (fun e => isO_ne hB.1 hr (by decide) e) (fun z => by obtain ⟨k, h1, h2, _⟩ := hP m z; exact h2 (h1.2.symm.trans hB.1.2))) (fun z => z.elim (fun e => isO_ne hB.2.2.1 hr (by decide) e) (fun z => by obtain ⟨k, h1, _, h2⟩ := hP d z; exact h2 (h1.2.symm.trans hB.2.2.1.2)))
theorem oI_ge {o : Option Nat} {a : Nat} (h : o = some a) (ha : a < 2147483648) : 0 ≤ oI o := by
  rw [h]
  have := nI_pos ha
  rw [Int32.lt_iff_toInt_lt] at this
  rw [Int32.le_iff_toInt_le]
  show Int32.toInt 0 ≤ Int32.toInt (nI a)
  omega
theorem oI_lt {o : Option Nat} (h : o = none) : ¬ 0 ≤ oI o := by rw [h]; decide
theorem pc_le {c i : Nat} (hc : c < 2147483648) (hi : i < 2147483648) : nI c - 1 ≤ nI i ↔ c - 1 ≤ i := by
  cases c with
  | zero =>
    refine ⟨fun _ => Nat.zero_le _, fun _ => ?_⟩
    have := nI_pos hi
    rw [Int32.lt_iff_toInt_lt] at this
    rw [Int32.le_iff_toInt_le, show Int32.toInt (nI 0 - 1) = -1 from by decide]
    have e : Int32.toInt 0 = 0 := by decide
    omega
  | succ c =>
    rw [show nI (c + 1) - 1 = nI c from pk_sub (a := c + 1) (b := 1) (Nat.succ_le_succ (Nat.zero_le _))]
    exact nI_leI (by omega) hi
def rpQ (r m c0 n q p : Nat) (B : List Nat) (S S' : MM) (v : Int32) : Prop := RW (fun b => b = c0) [915, 916] r S S' ∧ ((v = 1 ∧ ∃ c L p', rdP B n q p = some (c, L, p') ∧ (vint B q p).1 = some c ∧ L.length = c - 1 ∧ mI S' 915 r = nI c - 1 ∧ mI S' 916 r = nI (vint B q p).2 ∧ Cu S' c0 m p' q) ∨ (v = 0 ∧ rdP B n q p = none))
def I_rp (r m c0 n q p : Nat) (B : List Nat) (S : MM) (t : Nat) : KT := fun lo st S1 cs sl => ∃ c k L p1, t = k ∧ (vint B q p).1 = some c ∧ L.length + k = c - 1 ∧ prR B q n k L p1 = prR B q n (c - 1) [] (vint B q p).2 ∧ RW (fun b => b = c0) [915, 916] r S S1 ∧ mI S1 915 r = nI c - 1 ∧ mI S1 916 r = nI (vint B q p).2 ∧ Cu S1 c0 m p1 q ∧ lo = [(2, .inl (nI L.length)), (0, .inr (.inr (some r)))] ∧ st = [] ∧ cs = 0 ∧ sl = 0
def T_rrp : TR := fun Rc Rs av S cs sl K _Kx => match av with
  | [.inr (.inr r_o)] => pa r_o fun r => (∃ (F : Nat → Nat × Nat) (j pk : Nat) (cu : Nat → Nat) (ids fnd m d : Nat) (B : List Nat) (n q p : Nat), (RD S F j r pk cu ids fnd ∧ Cu S (cu 3) m p q ∧ By S m d B ∧ mI S 909 r = nI n ∧ n ≤ 256) ∧ cs ≤ Rc ∧ sl ≤ Rs ∧ (∀ (v : Int32) (S' : MM), (rpQ r m (cu 3) n q p B S S' v) → K (some (.inl v)) S' cs sl))
  | _ => False
def sp_rrp (r : Nat) (F : Nat → Nat × Nat) (j pk : Nat) (cu : Nat → Nat) (ids fnd m d : Nat) (B : List Nat) (n q p : Nat) : Sp := (fun av S => av = [.inr (.inr (some r))] ∧ (RD S F j r pk cu ids fnd ∧ Cu S (cu 3) m p q ∧ By S m d B ∧ mI S 909 r = nI n ∧ n ≤ 256), fun _ S => 0, fun _ S => 0, fun _ S rv S' => ∃ v, rv = (some (.inl v)) ∧ (rpQ r m (cu 3) n q p B S S' v), fun _ _ _ _ => False)
def tX8_readParents : CD := [(0, .aload_n 0), (1, .getfield 24), (4, .invokevirtual 122), (7, .istore_n 1), (8, .iload_n 1), (9, .ifCond .ge 5), (12, .iconst 0), (13, .ireturn), (14, .aload_n 0), (15, .iload_n 1), (16, .iconst 1), (17, .isub), (18, .putfield 63), (21, .aload_n 0), (22, .aload_n 0), (23, .getfield 24), (26, .getfield 134), (29, .putfield 66), (32, .iconst 0), (33, .istore_n 2), (34, .iload_n 2), (35, .aload_n 0), (36, .getfield 63), (39, .if_icmp .ge 41), (42, .aload_n 0), (43, .getfield 24), (46, .invokevirtual 122), (49, .istore_n 3), (50, .iload_n 3), (51, .ifCond .lt 21), (54, .iload_n 3), (55, .aload_n 0), (56, .getfield 43), (59, .if_icmp .ge 13), (62, .aload_n 0), (63, .getfield 24), (66, .invokevirtual 122), (69, .ifCond .ge 5), (72, .iconst 0), (73, .ireturn), (74, .iinc 2 1), (77, .goto (-43)), (80, .iconst 1), (81, .ireturn)]
set_option maxRecDepth 100000 in
theorem kX8_readParents : chk cX8_readParents tX8_readParents = true := by decide +kernel
theorem vX8_readParents_122 : ∀ w ∈ ([.methodLink RX8 122 yX2_varint, .instanceMethod yX2_varint, .selects yX2_varint.cls yX2_varint yX2_varint, .initialized yX2_varint.cls, .code yX2_varint cX2_varint 4 (some .int)] : List Cond), w ∈ lw_good := List.forall_mem_cons.mpr ⟨mgd 1512 (by decide +kernel) (by decide +kernel), List.forall_mem_cons.mpr ⟨mgd 1482 (by decide +kernel) (by decide +kernel), List.forall_mem_cons.mpr ⟨mgd 1483 (by decide +kernel) (by decide +kernel), List.forall_mem_cons.mpr ⟨mgd 131 (by decide +kernel) (by decide +kernel), List.forall_mem_cons.mpr ⟨mgd 1484 (by decide +kernel) (by decide +kernel), fun _ h => absurd h List.not_mem_nil⟩⟩⟩⟩⟩
set_option maxRecDepth 100000 in
set_option maxHeartbeats 2000000 in
theorem c_rrp (l : Launch) : ∀ (r : Nat) (F : Nat → Nat × Nat) (j pk : Nat) (cu : Nat → Nat) (ids fnd m d : Nat) (B : List Nat) (n q p : Nat), Ct l yX8_readParents cX8_readParents 4 (some .boolean) 2 44 (sp_rrp r F j pk cu ids fnd m d B n q p) := by
  intro r F j pk cu ids fnd m d B n q p
  refine Ct.of (fX8, nX8, aX8, iX8, lX8, [(122, 0, 1, 1, T_cvar)], qX8, gX8, []) false tX8_readParents (fun _ S => look [(34, ([2,0], I_rp r m (cu 3) n q p B S))]) (by decide) (by decide) kX8_readParents ⟨_, _, rfl⟩ fX8_ok nX8_ok aX8_ok iX8_ok lX8_ok (fun p e R s m args below meth c Q D cy z r A C hR1 hR2 => List.forall_mem_cons.mpr ⟨cOK_use (fun _ _ _ _ _ _ _ _ h => let ⟨sp, h1, h2, h3⟩ := u_cvar l _ _ _ _ _ _ _ _ h; ⟨sp, cOK_V C h1 vX8_readParents_122 ⟨by decide, by decide, by decide +kernel⟩ ⟨by rw [hR1]; decide, by rw [hR2]; decide⟩ (k := 3) (T := TX2) (N := 3) rfl (by decide) h2, h3⟩), fun _ h => absurd h List.not_mem_nil⟩) qX8_ok gX8_ok rfl ?_ ?_
  · rintro _ S ⟨rfl, hp⟩
    refine ⟨Nat.le_of_ble_eq_true rfl, 300, ?_⟩
    show (isO S 9 r ∧ (0 = 0 ∧ ((pa (mR S 904 r) fun a_1 => (∃ (s_2 d_3 p_4 q_5 : Nat) (B_6 : List Nat), (Cu S a_1 s_2 p_4 q_5 ∧ By S s_2 d_3 B_6) ∧ 0 ≤ 0 ∧ 0 ≤ 0 ∧ (((0 ≤ (oI (vint B_6 q_5 p_4).1) → (True ∧ (isO (sI S 301 a_1 (nI (vint B_6 q_5 p_4).2)) 9 r ∧ (isO (sI (sI S 301 a_1 (nI (vint B_6 q_5 p_4).2)) 915 r ((oI (vint B_6 q_5 p_4).1) - (1 : Int32))) 9 r ∧ (pa (mR (sI (sI S 301 a_1 (nI (vint B_6 q_5 p_4).2)) 915 r ((oI (vint B_6 q_5 p_4).1) - (1 : Int32))) 904 r) fun a_8 => isO (sI (sI S 301 a_1 (nI (vint B_6 q_5 p_4).2)) 915 r ((oI (vint B_6 q_5 p_4).1) - (1 : Int32))) 3 a_8 ∧ (True ∧ (isO (sI (sI S 301 a_1 (nI (vint B_6 q_5 p_4).2)) 915 r ((oI (vint B_6 q_5 p_4).1) - (1 : Int32))) 9 r ∧ (∃ k1, I_rp r m (cu 3) n q p B S k1 [(2, .inl (0 : Int32)), (0, .inr (.inr (some r)))] [] (sI (sI (sI S 301 a_1 (nI (vint B_6 q_5 p_4).2)) 915 r ((oI (vint B_6 q_5 p_4).1) - (1 : Int32))) 916 r (mI (sI (sI S 301 a_1 (nI (vint B_6 q_5 p_4).2)) 915 r ((oI (vint B_6 q_5 p_4).1) - (1 : Int32))) 301 a_8)) 0 0)))))))) ∧ (¬ 0 ≤ (oI (vint B_6 q_5 p_4).1) → (([] : List MV) = [] ∧ mret (some .boolean) (sp_rrp r F j pk cu ids fnd m d B n q p) [.inr (.inr (some r))] S (some (.inl (0 : Int32))) (sI S 301 a_1 (nI (vint B_6 q_5 p_4).2)) 0 0)))))))))
    obtain ⟨hR, hC, hB, hn, hn2⟩ := hp
    have c3 := hR.2.2.2.1 3 (by decide)
    have hv := vint_le (B := B) hC.2.2.2.2.1
    have rc := hR.cr (a := 3) (by decide)
    have r0 : RW (fun b => b = cu 3) [915, 916] r S (sI S 301 (cu 3) (nI (vint B q p).2)) := RW.rf.wIo rfl rc
    refine ⟨hR.1, rfl, pa_i c3.1 ⟨m, d, p, q, B, ⟨hC, hB⟩, Nat.le_refl _, Nat.le_refl _, ?_⟩⟩
    cases ev : (vint B q p).1 with
    | none => exact ⟨fun z => absurd z (by decide), fun _ => ⟨rfl, Or.inl rfl, ⟨0, rfl, r0, Or.inr ⟨rfl, rdP_1 ev⟩⟩, Nat.le_refl _, Nat.le_refl _⟩⟩
    | some c =>
      have hc := vint_lt hB.bytesLt ev
      have n3 : ∀ v, mI (sI (sI S 301 (cu 3) (nI (vint B q p).2)) 915 r v) 301 (cu 3) = nI (vint B q p).2 := fun v => by rw [mI_sI, if_neg (fun z => absurd z.1 (by decide)), mI_sIs]
      refine ⟨fun _ => ⟨trivial, hR.1, hR.1, pa_i c3.1 ⟨c3.2.1, trivial, hR.1, c - 1, c, c - 1, [], (vint B q p).2, rfl, ev, Nat.zero_add _, rfl, (r0.wI (by decide)).wI (by decide), ?_, ?_, ?_, rfl, rfl, rfl, rfl⟩⟩, fun z => absurd (oI_ge rfl hc) z⟩
      · rw [mI_sIn (by decide), mI_sIs]; rfl
      · rw [mI_sIs, n3]
      · exact (hC.mv hv.2).keep (Keep.sI (P := fun b => b = r) (Keep.sI (P := fun b => b = r) Keep.rf rfl) rfl) (fun e => rc e.symm)
  · intro av S hpre pc I hI k lo st S1 cs sl h
    obtain ⟨rfl, hp⟩ := hpre
    have hm := look_in hI
    rw [List.mem_singleton] at hm
    cases hm
    obtain ⟨c, k, L, p1, rfl, hc, hl, hL, x1, x2, x3, x4, rfl, rfl, rfl, rfl⟩ := h
    obtain ⟨hR, hC, hB, hn, hn2⟩ := hp
    have hR1 := x1.rd hR (fun q hq => by rcases List.mem_cons.mp hq with e | e; rw [e]; decide; rw [List.mem_singleton.mp e]; decide)
    have c3 := hR1.2.2.2.1 3 (by decide)
    have hB1 : By S1 m d B := x1.by hR.1 hB (fun b e => by rw [e]; exact ⟨3, hC.1, by decide, by decide⟩)
    have hc9 := vint_lt hB.bytesLt hc
    have hv := vint_le (B := B) x4.2.2.2.2.1
    have rc := hR.cr (a := 3) (by decide)
    have h9 : mI S1 909 r = nI n := (x1.2.1 909 (by decide)).trans hn
    have r1 : RW (fun b => b = cu 3) [915, 916] r S (sI S1 301 (cu 3) (nI (vint B q p1).2)) := x1.wIo rfl rc
    refine ⟨300, ?_⟩
    show (isO S1 9 r ∧ (((mI S1 915 r) ≤ (nI L.length) → (([] : List MV) = [] ∧ mret (some .boolean) (sp_rrp r F j pk cu ids fnd m d B n q p) [.inr (.inr (some r))] S (some (.inl (1 : Int32))) S1 0 0)) ∧ (¬ (mI S1 915 r) ≤ (nI L.length) → (isO S1 9 r ∧ (0 = 0 ∧ ((pa (mR S1 904 r) fun a_1 => (∃ (s_2 d_3 p_4 q_5 : Nat) (B_6 : List Nat), (Cu S1 a_1 s_2 p_4 q_5 ∧ By S1 s_2 d_3 B_6) ∧ 0 ≤ 0 ∧ 0 ≤ 0 ∧ ((((oI (vint B_6 q_5 p_4).1) < 0 → (([] : List MV) = [] ∧ mret (some .boolean) (sp_rrp r F j pk cu ids fnd m d B n q p) [.inr (.inr (some r))] S (some (.inl (0 : Int32))) (sI S1 301 a_1 (nI (vint B_6 q_5 p_4).2)) 0 0)) ∧ (¬ (oI (vint B_6 q_5 p_4).1) < 0 → (isO (sI S1 301 a_1 (nI (vint B_6 q_5 p_4).2)) 9 r ∧ (((mI (sI S1 301 a_1 (nI (vint B_6 q_5 p_4).2)) 909 r) ≤ (oI (vint B_6 q_5 p_4).1) → (([] : List MV) = [] ∧ mret (some .boolean) (sp_rrp r F j pk cu ids fnd m d B n q p) [.inr (.inr (some r))] S (some (.inl (0 : Int32))) (sI S1 301 a_1 (nI (vint B_6 q_5 p_4).2)) 0 0)) ∧ (¬ (mI (sI S1 301 a_1 (nI (vint B_6 q_5 p_4).2)) 909 r) ≤ (oI (vint B_6 q_5 p_4).1) → (isO (sI S1 301 a_1 (nI (vint B_6 q_5 p_4).2)) 9 r ∧ (0 = 0 ∧ ((pa (mR (sI S1 301 a_1 (nI (vint B_6 q_5 p_4).2)) 904 r) fun a_8 => (∃ (s_9 d_10 p_11 q_12 : Nat) (B_13 : List Nat), (Cu (sI S1 301 a_1 (nI (vint B_6 q_5 p_4).2)) a_8 s_9 p_11 q_12 ∧ By (sI S1 301 a_1 (nI (vint B_6 q_5 p_4).2)) s_9 d_10 B_13) ∧ 0 ≤ 0 ∧ 0 ≤ 0 ∧ (((0 ≤ (oI (vint B_13 q_12 p_11).1) → (∃ k1, k1 < k ∧ I_rp r m (cu 3) n q p B S k1 [(2, .inl ((nI L.length) + (1 : Int32))), (0, .inr (.inr (some r)))] [] (sI (sI S1 301 a_1 (nI (vint B_6 q_5 p_4).2)) 301 a_8 (nI (vint B_13 q_12 p_11).2)) 0 0)) ∧ (¬ 0 ≤ (oI (vint B_13 q_12 p_11).1) → (([] : List MV) = [] ∧ mret (some .boolean) (sp_rrp r F j pk cu ids fnd m d B n q p) [.inr (.inr (some r))] S (some (.inl (0 : Int32))) (sI (sI S1 301 a_1 (nI (vint B_6 q_5 p_4).2)) 301 a_8 (nI (vint B_13 q_12 p_11).2)) 0 0)))))))))))))))))))))))
    rw [x2]
    refine ⟨hR1.1, fun z => ⟨rfl, Or.inr rfl, ⟨1, rfl, x1, Or.inl ⟨rfl, c, L, p1, ?_, hc, ?_, x2, x3, x4⟩⟩, Nat.le_refl _, Nat.le_refl _⟩, fun z => ?_⟩
    · have := (pc_le hc9 (by omega)).1 z
      have k0 : k = 0 := by omega
      subst k0
      exact rdP_3 hc hL.symm
    · have := (pc_le hc9 (by omega)).1 z
      omega
    · have hk : ¬ c - 1 ≤ L.length := fun y => z ((pc_le hc9 (by omega)).2 y)
      obtain ⟨k, rfl⟩ : ∃ k', k = k' + 1 := ⟨k - 1, by omega⟩
      have no : ∀ S2, RW (fun b => b = cu 3) [915, 916] r S S2 → rdP B n q p = none → mret (some .boolean) (sp_rrp r F j pk cu ids fnd m d B n q p) [.inr (.inr (some r))] S (some (.inl 0)) S2 0 0 := fun S2 h e => ⟨Or.inl rfl, ⟨0, rfl, h, Or.inr ⟨rfl, e⟩⟩, Nat.le_refl _, Nat.le_refl _⟩
      refine ⟨hR1.1, rfl, pa_i c3.1 ⟨m, d, p1, q, B, ⟨x4, hB1⟩, Nat.le_refl _, Nat.le_refl _, ?_⟩⟩
      cases ev : (vint B q p1).1 with
      | none => exact ⟨fun _ => ⟨rfl, no _ r1 (rdP_2 hc (hL.symm.trans (prR_1 ev)))⟩, fun z => absurd (by decide) z⟩
      | some a =>
        have ha := vint_lt hB.bytesLt ev
        have m9 : mI (sI S1 301 (cu 3) (nI (vint B q p1).2)) 909 r = nI n := by rw [mI_sI, if_neg (fun z => absurd z.1 (by decide))]; exact h9
        rw [m9]
        refine ⟨fun z => absurd z (nI_pos ha), fun _ => ⟨hR1.1, if_le (by omega) ha (fun h8 => ⟨rfl, no _ r1 (rdP_2 hc (hL.symm.trans (prR_2 ev (by omega))))⟩) (fun h8 => ?_)⟩⟩
        have x5 := x4.mv hv.2
        have hB2 : By (sI S1 301 (cu 3) (nI (vint B q p1).2)) m d B := r1.by hR.1 hB (fun b e => by rw [e]; exact ⟨3, hC.1, by decide, by decide⟩)
        have hv2 := vint_le (B := B) x5.2.2.2.2.1
        refine ⟨hR1.1, rfl, pa_i c3.1 ⟨m, d, (vint B q p1).2, q, B, ⟨x5, hB2⟩, Nat.le_refl _, Nat.le_refl _, ?_⟩⟩
        have r2 : RW (fun b => b = cu 3) [915, 916] r S (sI (sI S1 301 (cu 3) (nI (vint B q p1).2)) 301 (cu 3) (nI (vint B q (vint B q p1).2).2)) := r1.wIo rfl rc
        cases ew : (vint B q (vint B q p1).2).1 with
        | none => exact ⟨fun z => absurd z (by decide), fun _ => ⟨rfl, no _ r2 (rdP_2 hc (hL.symm.trans (prR_3 ev ew)))⟩⟩
        | some b =>
          have hb := vint_lt hB.bytesLt ew
          have hl2 : (L ++ [(a, b)]).length = L.length + 1 := by rw [List.length_append, List.length_singleton]
          refine ⟨fun _ => ⟨k, Nat.lt_succ_self k, c, k, L ++ [(a, b)], (vint B q (vint B q p1).2).2, rfl, hc, by rw [hl2]; omega, (prR_4 ev h8 ew).symm.trans hL, r2, ?_, ?_, x5.mv hv2.2, by rw [hl2, ← nI_add]; rfl, rfl, rfl, rfl⟩, fun z => absurd (oI_ge rfl hb) z⟩
          · rw [mI_sI, if_neg (fun z => rc z.2), mI_sI, if_neg (fun z => rc z.2)]; exact x2
          · rw [mI_sI, if_neg (fun z => rc z.2), mI_sI, if_neg (fun z => rc z.2)]; exact x3
theorem u_rrp (l : Launch) : Us l yX8_readParents cX8_readParents 4 (some .boolean) 2 44 9 T_rrp := by
  intro Rc Rs av S cs sl K Kx h
  unfold T_rrp at h
  split at h
  · rename_i r_o
    obtain ⟨r, rfl, h_1⟩ := pa_of h
    obtain ⟨F, j, pk, cu, ids, fnd, m, d, B, n, q, p, hp, hc, hs, hk⟩ := h_1
    refine ⟨(sp_rrp r F j pk cu ids fnd m d B n q p), c_rrp l r F j pk cu ids fnd m d B n q p, fun _ _ h9 => ⟨_, _, h9.1, h9.2.1.1⟩, ⟨rfl, hp⟩, hc, hs, fun v9 S' h8 => by
      obtain ⟨v8, h7, h8⟩ := h8
      cases h7
      exact hk _ _ h8, fun _ _ q => q.elim⟩
  · exact h.elim
