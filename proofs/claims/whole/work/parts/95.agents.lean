/-! ===== PatchReader.readAgents ===== -/
def agR (B : List Nat) (q : Nat) : Nat → List Nat → Nat → Option (List Nat × Nat)
  | 0, L, p => some (L, p)
  | n + 1, L, p => match (vint B q p).1 with
    | none => none
    | some a => if a < 256 ∧ a ∉ L then agR B q n (L ++ [a]) (vint B q p).2 else none
/-- the column of agents: their ids, if it is sound -/
def rdA (B : List Nat) (x y : Nat) : Option (List Nat) := (vint B y x).1.bind fun n => if n ≤ 256 then (agR B y n [] (vint B y x).2).bind fun q => if y ≤ q.2 then some q.1 else none else none
/-- what is written: fields qs of r, and cells of P -/
def RW (P : Nat → Prop) (qs : List Nat) (r : Nat) (S S' : MM) : Prop := Keep (fun b => b = r ∨ P b) S S' ∧ (∀ q, q ∉ qs → mI S' q r = mI S q r) ∧ (∀ q, q ∉ qs → mR S' q r = mR S q r) ∧ (∀ q, q ∉ qs → mJ S' q r = mJ S q r)
section RWS
variable {S S1 S2 : MM} {P Q : Nat → Prop} {qs ps : List Nat} {r : Nat}
theorem RW.rf : RW P qs r S S := ⟨Keep.rf, fun _ _ => rfl, fun _ _ => rfl, fun _ _ => rfl⟩
theorem RW.tr (h : RW P qs r S S1) (g : RW P qs r S1 S2) : RW P qs r S S2 := ⟨h.1.tr g.1, fun q z => (g.2.1 q z).trans (h.2.1 q z), fun q z => (g.2.2.1 q z).trans (h.2.2.1 q z), fun q z => (g.2.2.2 q z).trans (h.2.2.2 q z)⟩
theorem RW.mono (h : RW P qs r S S1) (hP : ∀ b, P b → Q b) (hq : ∀ q, q ∈ qs → q ∈ ps) : RW Q ps r S S1 := ⟨h.1.mono (fun b _ z => z.imp id (hP b)), fun q z => h.2.1 q (fun y => z (hq q y)), fun q z => h.2.2.1 q (fun y => z (hq q y)), fun q z => h.2.2.2 q (fun y => z (hq q y))⟩
theorem RW.wI {i : Nat} {v : Int32} (h : RW P qs r S S1) (hi : i ∈ qs) : RW P qs r S (sI S1 i r v) := ⟨h.1.sI (Or.inl rfl), fun q z => (mI_sIn (fun (e : q = i) => z (by rw [e]; exact hi))).trans (h.2.1 q z), h.2.2.1, h.2.2.2⟩
theorem RW.wR {i : Nat} {v : Option Nat} (h : RW P qs r S S1) (hi : i ∈ qs) : RW P qs r S (sR S1 i r v) := ⟨h.1.sR (Or.inl rfl), h.2.1, fun q z => by rw [mR_sR, if_neg (fun w => z (by rw [w.1]; exact hi))]; exact h.2.2.1 q z, h.2.2.2⟩
theorem RW.wJ {i : Nat} {v : Int64} (h : RW P qs r S S1) (hi : i ∈ qs) : RW P qs r S (sJ S1 i r v) := ⟨h.1.sJ (Or.inl rfl), h.2.1, h.2.2.1, fun q z => by rw [mJ_sJ, if_neg (fun w => z (by rw [w.1]; exact hi))]; exact h.2.2.2 q z⟩
theorem RW.wIo {i b : Nat} {v : Int32} (h : RW P qs r S S1) (hb : P b) (hn : r ≠ b) : RW P qs r S (sI S1 i b v) := ⟨h.1.sI (Or.inr hb), fun q z => by rw [mI_sI, if_neg (fun w => hn w.2)]; exact h.2.1 q z, h.2.2.1, h.2.2.2⟩
theorem RW.wE {b : Nat} {v : Nat → Int32} (h : RW P qs r S S1) (hb : P b) : RW P qs r S (rI S1 b v) := ⟨h.1.rI (Or.inr hb), h.2.1, h.2.2.1, h.2.2.2⟩
theorem RW.wF {b : Nat} {v : Nat → Option Nat} (h : RW P qs r S S1) (hb : P b) : RW P qs r S (rR S1 b v) := ⟨h.1.rR (Or.inr hb), h.2.1, h.2.2.1, h.2.2.2⟩
theorem RW.rd {F : Nat → Nat × Nat} {j pk ids fnd : Nat} {cu : Nat → Nat} (h : RW P qs r S S1) (hR : RD S F j r pk cu ids fnd) (hq : ∀ q ∈ qs, 908 < q) : RD S1 F j r pk cu ids fnd := hR.keep h.1 (fun q z => h.2.2.1 q (fun w => by have := hq q w; omega))
end RWS
theorem inRn {S : MM} {a i N : Nat} (h : mN S a = N) (hi : i < N) (hN : N ≤ 60000000) : inR S a (nI i) := fun z => z.elim (fun z => absurd z (nI_pos (by omega))) (fun z => by rw [h, nI_clamp (by omega)] at z; omega)
section RDA
variable {B : List Nat} {x y n p : Nat} {L : List Nat}
theorem rdA_1 (h : (vint B y x).1 = none) : rdA B x y = none := by unfold rdA; rw [h]; rfl
theorem rdA_2 (h : (vint B y x).1 = some n) (hn : ¬ n ≤ 256) : rdA B x y = none := by
  unfold rdA
  rw [h]
  show (if n ≤ 256 then _ else none) = none
  rw [if_neg hn]
theorem rdA_3 (h : (vint B y x).1 = some n) (hn : n ≤ 256) (h2 : agR B y n [] (vint B y x).2 = none) : rdA B x y = none := by
  unfold rdA
  rw [h]
  show (if n ≤ 256 then _ else none) = none
  rw [if_pos hn, h2]; rfl
theorem rdA_4 (h : (vint B y x).1 = some n) (hn : n ≤ 256) (h2 : agR B y n [] (vint B y x).2 = some (L, p)) : rdA B x y = if y ≤ p then some L else none := by
  unfold rdA
  rw [h]
  show (if n ≤ 256 then _ else none) = _
  rw [if_pos hn, h2]; rfl
theorem agR_1 {k : Nat} (h : (vint B y p).1 = none) : agR B y (k + 1) L p = none := by rw [agR, h]
theorem agR_2 {k a : Nat} (h : (vint B y p).1 = some a) (hn : ¬ (a < 256 ∧ a ∉ L)) : agR B y (k + 1) L p = none := by rw [agR, h]; exact if_neg hn
theorem agR_3 {k a : Nat} (h : (vint B y p).1 = some a) (hn : a < 256 ∧ a ∉ L) : agR B y (k + 1) L p = agR B y k (L ++ [a]) (vint B y p).2 := by rw [agR, h]; exact if_pos hn
end RDA
def RaP (ids c : Nat) (b : Nat) : Prop := b = c ∨ b = ids
def raX (r m ids c y : Nat) (S S1 : MM) (n : Nat) (L : List Nat) (p : Nat) : Prop := RW (RaP ids c) [909] r S S1 ∧ Cu S1 c m p y ∧ mI S1 909 r = nI n ∧ ∀ k, k < L.length → eI S1 ids k = nI (L.getD k 0)
def raQ (r ids c x y : Nat) (B : List Nat) (S S' : MM) (v : Int32) : Prop := RW (RaP ids c) [909] r S S' ∧ ((v = 1 ∧ ∃ L, rdA B x y = some L ∧ L.length ≤ 256 ∧ (∀ a ∈ L, a < 256) ∧ mI S' 909 r = nI L.length ∧ ∀ k, k < L.length → eI S' ids k = nI (L.getD k 0)) ∨ (v = 0 ∧ rdA B x y = none))
def raL (B : List Nat) (x y n k : Nat) (L : List Nat) (p : Nat) : Prop := (vint B y x).1 = some n ∧ n ≤ 256 ∧ L.length + k = n ∧ (∀ a ∈ L, a < 256) ∧ agR B y k L p = agR B y n [] (vint B y x).2
def I_rga (r m ids c x y : Nat) (B : List Nat) (S : MM) (t : Nat) : KT := fun lo st S1 cs sl => ∃ n k L p, t = 600 * k ∧ raL B x y n k L p ∧ raX r m ids c y S S1 n L p ∧ lo = [(1, .inl (nI L.length)), (0, .inr (.inr (some r)))] ∧ st = [] ∧ cs = 0 ∧ sl = 0
def I_rgb (r m ids c x y : Nat) (B : List Nat) (S : MM) (t : Nat) : KT := fun lo st S1 cs sl => ∃ n k L p, t = 600 * k + 599 ∧ raL B x y n (k + 1) L p ∧ raX r m ids c y S S1 n L (vint B y p).2 ∧ eI S1 ids L.length = oI (vint B y p).1 ∧ lo = [(1, .inl (nI L.length)), (0, .inr (.inr (some r)))] ∧ st = [] ∧ cs = 0 ∧ sl = 0
def I_rgc (r m ids c x y : Nat) (B : List Nat) (S : MM) (t : Nat) : KT := fun lo st S1 cs sl => ∃ n k L p a i, t = 600 * k + 1 + (L.length - i) ∧ raL B x y n (k + 1) L p ∧ raX r m ids c y S S1 n L (vint B y p).2 ∧ (vint B y p).1 = some a ∧ a < 256 ∧ eI S1 ids L.length = nI a ∧ i ≤ L.length ∧ (∀ h, h < i → L.getD h 0 ≠ a) ∧ lo = [(2, .inl (nI i)), (1, .inl (nI L.length)), (0, .inr (.inr (some r)))] ∧ st = [] ∧ cs = 0 ∧ sl = 0
def T_rag : TR := fun Rc Rs av S cs sl K _Kx => match av with
  | [.inr (.inr r_o)] => pa r_o fun r => (∃ (F : Nat → Nat × Nat) (j pk : Nat) (cu : Nat → Nat) (ids fnd m d : Nat) (B : List Nat) (x y : Nat), (RD S F j r pk cu ids fnd ∧ Cu S (cu 1) m x y ∧ By S m d B) ∧ cs ≤ Rc ∧ sl ≤ Rs ∧ (∀ (v : Int32) (S' : MM), (raQ r ids (cu 1) x y B S S' v) → K (some (.inl v)) S' cs sl))
  | _ => False
def sp_rag (r : Nat) (F : Nat → Nat × Nat) (j pk : Nat) (cu : Nat → Nat) (ids fnd m d : Nat) (B : List Nat) (x y : Nat) : Sp := (fun av S => av = [.inr (.inr (some r))] ∧ (RD S F j r pk cu ids fnd ∧ Cu S (cu 1) m x y ∧ By S m d B), fun _ S => 0, fun _ S => 0, fun _ S rv S' => ∃ v, rv = (some (.inl v)) ∧ (raQ r ids (cu 1) x y B S S' v), fun _ _ _ _ => False)
def tX8_readAgents : CD := [(0, .aload_n 0), (1, .aload_n 0), (2, .getfield 18), (5, .invokevirtual 122), (8, .putfield 43), (11, .aload_n 0), (12, .getfield 43), (15, .ifCond .lt 13), (18, .aload_n 0), (19, .getfield 43), (22, .sipush 256), (25, .if_icmp .le 5), (28, .iconst 0), (29, .ireturn), (30, .iconst 0), (31, .istore_n 1), (32, .iload_n 1), (33, .aload_n 0), (34, .getfield 43), (37, .if_icmp .ge 75), (40, .aload_n 0), (41, .getfield 33), (44, .iload_n 1), (45, .aload_n 0), (46, .getfield 18), (49, .invokevirtual 122), (52, .iastore), (53, .aload_n 0), (54, .getfield 33), (57, .iload_n 1), (58, .iaload), (59, .ifCond .lt 15), (62, .aload_n 0), (63, .getfield 33), (66, .iload_n 1), (67, .iaload), (68, .sipush 256), (71, .if_icmp .lt 5), (74, .iconst 0), (75, .ireturn), (76, .iconst 0), (77, .istore_n 2), (78, .iload_n 2), (79, .iload_n 1), (80, .if_icmp .ge 26), (83, .aload_n 0), (84, .getfield 33), (87, .iload_n 2), (88, .iaload), (89, .aload_n 0), (90, .getfield 33), (93, .iload_n 1), (94, .iaload), (95, .if_icmp .ne 5), (98, .iconst 0), (99, .ireturn), (100, .iinc 2 1), (103, .goto (-25)), (106, .iinc 1 1), (109, .goto (-77)), (112, .aload_n 0), (113, .getfield 18), (116, .invokevirtual 119), (119, .ireturn)]
set_option maxRecDepth 100000 in
theorem kX8_readAgents : chk cX8_readAgents tX8_readAgents = true := by decide +kernel
theorem vX8_readAgents_122 : ∀ w ∈ ([.methodLink RX8 122 yX2_varint, .instanceMethod yX2_varint, .selects yX2_varint.cls yX2_varint yX2_varint, .initialized yX2_varint.cls, .code yX2_varint cX2_varint 4 (some .int)] : List Cond), w ∈ lw_good := List.forall_mem_cons.mpr ⟨mgd 1512 (by decide +kernel) (by decide +kernel), List.forall_mem_cons.mpr ⟨mgd 1482 (by decide +kernel) (by decide +kernel), List.forall_mem_cons.mpr ⟨mgd 1483 (by decide +kernel) (by decide +kernel), List.forall_mem_cons.mpr ⟨mgd 131 (by decide +kernel) (by decide +kernel), List.forall_mem_cons.mpr ⟨mgd 1484 (by decide +kernel) (by decide +kernel), fun _ h => absurd h List.not_mem_nil⟩⟩⟩⟩⟩
theorem vX8_readAgents_119 : ∀ w ∈ ([.methodLink RX8 119 yX2_isDone, .instanceMethod yX2_isDone, .selects yX2_isDone.cls yX2_isDone yX2_isDone, .initialized yX2_isDone.cls, .code yX2_isDone cX2_isDone 1 (some .boolean)] : List Cond), w ∈ lw_good := List.forall_mem_cons.mpr ⟨mgd 1507 (by decide +kernel) (by decide +kernel), List.forall_mem_cons.mpr ⟨mgd 1487 (by decide +kernel) (by decide +kernel), List.forall_mem_cons.mpr ⟨mgd 1488 (by decide +kernel) (by decide +kernel), List.forall_mem_cons.mpr ⟨mgd 131 (by decide +kernel) (by decide +kernel), List.forall_mem_cons.mpr ⟨mgd 1489 (by decide +kernel) (by decide +kernel), fun _ h => absurd h List.not_mem_nil⟩⟩⟩⟩⟩
set_option maxRecDepth 100000 in
set_option maxHeartbeats 2000000 in
theorem c_rag (l : Launch) : ∀ (r : Nat) (F : Nat → Nat × Nat) (j pk : Nat) (cu : Nat → Nat) (ids fnd m d : Nat) (B : List Nat) (x y : Nat), Ct l yX8_readAgents cX8_readAgents 3 (some .boolean) 2 44 (sp_rag r F j pk cu ids fnd m d B x y) := by
  intro r F j pk cu ids fnd m d B x y
  refine Ct.of (fX8, nX8, aX8, iX8, lX8, [(122, 0, 1, 1, T_cvar), (119, 0, 1, 1, T_cdone)], qX8, gX8, []) false tX8_readAgents (fun _ S => look [(32, ([1,0], I_rga r m ids (cu 1) x y B S)), (53, ([1,0], I_rgb r m ids (cu 1) x y B S)), (78, ([2,1,0], I_rgc r m ids (cu 1) x y B S))]) (by decide) (by decide) kX8_readAgents ⟨_, _, rfl⟩ fX8_ok nX8_ok aX8_ok iX8_ok lX8_ok (fun p e R s m args below meth c Q D cy z r A C hR1 hR2 => List.forall_mem_cons.mpr ⟨cOK_use (fun _ _ _ _ _ _ _ _ h => let ⟨sp, h1, h2, h3⟩ := u_cvar l _ _ _ _ _ _ _ _ h; ⟨sp, cOK_V C h1 vX8_readAgents_122 ⟨by decide, by decide, by decide +kernel⟩ ⟨by rw [hR1]; decide, by rw [hR2]; decide⟩ (k := 3) (T := TX2) (N := 3) rfl (by decide) h2, h3⟩), List.forall_mem_cons.mpr ⟨cOK_use (fun _ _ _ _ _ _ _ _ h => let ⟨sp, h1, h2, h3⟩ := u_cdone l _ _ _ _ _ _ _ _ h; ⟨sp, cOK_V C h1 vX8_readAgents_119 ⟨by decide, by decide, by decide +kernel⟩ ⟨by rw [hR1]; decide, by rw [hR2]; decide⟩ (k := 3) (T := TX2) (N := 3) rfl (by decide) h2, h3⟩), fun _ h => absurd h List.not_mem_nil⟩⟩) qX8_ok gX8_ok rfl ?_ ?_
  · rintro _ S ⟨rfl, hp⟩
    refine ⟨Nat.le_of_ble_eq_true rfl, 300, ?_⟩
    show (isO S 9 r ∧ (0 = 0 ∧ ((pa (mR S 902 r) fun a_1 => (∃ (s_2 d_3 p_4 q_5 : Nat) (B_6 : List Nat), (Cu S a_1 s_2 p_4 q_5 ∧ By S s_2 d_3 B_6) ∧ 0 ≤ 0 ∧ 0 ≤ 0 ∧ ((True ∧ (isO (sI S 301 a_1 (nI (vint B_6 q_5 p_4).2)) 9 r ∧ (isO (sI (sI S 301 a_1 (nI (vint B_6 q_5 p_4).2)) 909 r (oI (vint B_6 q_5 p_4).1)) 9 r ∧ (((mI (sI (sI S 301 a_1 (nI (vint B_6 q_5 p_4).2)) 909 r (oI (vint B_6 q_5 p_4).1)) 909 r) < 0 → (([] : List MV) = [] ∧ mret (some .boolean) (sp_rag r F j pk cu ids fnd m d B x y) [.inr (.inr (some r))] S (some (.inl (0 : Int32))) (sI (sI S 301 a_1 (nI (vint B_6 q_5 p_4).2)) 909 r (oI (vint B_6 q_5 p_4).1)) 0 0)) ∧ (¬ (mI (sI (sI S 301 a_1 (nI (vint B_6 q_5 p_4).2)) 909 r (oI (vint B_6 q_5 p_4).1)) 909 r) < 0 → (isO (sI (sI S 301 a_1 (nI (vint B_6 q_5 p_4).2)) 909 r (oI (vint B_6 q_5 p_4).1)) 9 r ∧ (((mI (sI (sI S 301 a_1 (nI (vint B_6 q_5 p_4).2)) 909 r (oI (vint B_6 q_5 p_4).1)) 909 r) ≤ (256 : Int32) → (∃ k1, I_rga r m ids (cu 1) x y B S k1 [(1, .inl (0 : Int32)), (0, .inr (.inr (some r)))] [] (sI (sI S 301 a_1 (nI (vint B_6 q_5 p_4).2)) 909 r (oI (vint B_6 q_5 p_4).1)) 0 0)) ∧ (¬ (mI (sI (sI S 301 a_1 (nI (vint B_6 q_5 p_4).2)) 909 r (oI (vint B_6 q_5 p_4).1)) 909 r) ≤ (256 : Int32) → (([] : List MV) = [] ∧ mret (some .boolean) (sp_rag r F j pk cu ids fnd m d B x y) [.inr (.inr (some r))] S (some (.inl (0 : Int32))) (sI (sI S 301 a_1 (nI (vint B_6 q_5 p_4).2)) 909 r (oI (vint B_6 q_5 p_4).1)) 0 0)))))))))))))))
    obtain ⟨hR, hC, hB⟩ := hp
    have c1 := hR.2.2.2.1 1 (by decide)
    have hv := vint_le (B := B) hC.2.2.2.2.1
    have hX : ∀ o, RW (RaP ids (cu 1)) [909] r S (sI (sI S 301 (cu 1) (nI (vint B y x).2)) 909 r o) := fun o => (RW.rf.wIo (Or.inl rfl) (hR.cr (by decide))).wI (List.mem_singleton.mpr rfl)
    have no : ∀ o, rdA B x y = none → mret (some .boolean) (sp_rag r F j pk cu ids fnd m d B x y) [.inr (.inr (some r))] S (some (.inl 0)) (sI (sI S 301 (cu 1) (nI (vint B y x).2)) 909 r o) 0 0 := fun o e => ⟨Or.inl rfl, ⟨0, rfl, hX o, Or.inr ⟨rfl, e⟩⟩, Nat.le_refl _, Nat.le_refl _⟩
    refine ⟨hR.1, rfl, pa_i c1.1 ⟨m, d, x, y, B, ⟨hC, hB⟩, Nat.le_refl _, Nat.le_refl _, trivial, hR.1, hR.1, ?_⟩⟩
    rw [mI_sIs]
    cases ev : (vint B y x).1 with
    | none => exact ⟨fun _ => ⟨rfl, no _ (rdA_1 ev)⟩, fun z => absurd (by decide) z⟩
    | some n =>
      have hn := vint_lt hB.bytesLt ev
      refine ⟨fun z => absurd z (nI_pos hn), fun _ => ⟨hR.1, if_le (b := 256) (by omega) (by decide) (fun h8 => ⟨600 * n, n, n, [], (vint B y x).2, rfl, ⟨ev, h8, Nat.zero_add _, (fun a z => by cases z), rfl⟩, ⟨hX _, ?_, mI_sIs, fun k hk => absurd hk (Nat.not_lt_zero k)⟩, rfl, rfl, rfl, rfl⟩) (fun h8 => ⟨rfl, no _ (rdA_2 ev (by omega))⟩)⟩⟩
      exact (hC.mv hv.2).keep (Keep.sI (P := fun b => b = r) Keep.rf rfl) (fun e => hR.cr (a := 1) (by decide) e.symm)
  · intro av S hpre pc I hI k lo st S1 cs sl h
    obtain ⟨rfl, hp⟩ := hpre
    have hm := look_in hI
    simp only [List.mem_cons, List.not_mem_nil, or_false] at hm
    rcases hm with hm | hm | hm
    · cases hm
      obtain ⟨n, k, L, p, rfl, hL, hX, rfl, rfl, rfl, rfl⟩ := h
      obtain ⟨hR, hC, hB⟩ := hp
      obtain ⟨x1, x2, x3, x4⟩ := hX
      obtain ⟨l1, l2, l3, l4, l5⟩ := hL
      have hR1 := x1.rd hR (fun q hq => by rw [List.mem_singleton.mp hq]; decide)
      have hB1 : By S1 m d B := hB.keep x1.1 (fun z => z.elim (fun e => isO_ne hB.1 hR.1 (by decide) e) (fun z => z.elim (fun e => isO_ne hB.1 hC.1 (by decide) e) (fun e => isO_ne hB.1 hR.2.2.2.2.2.1 (by decide) e))) (fun z => z.elim (fun e => isO_ne hB.2.2.1 hR.1 (by decide) e) (fun z => z.elim (fun e => isO_ne hB.2.2.1 hC.1 (by decide) e) (fun e => isO_ne hB.2.2.1 hR.2.2.2.2.2.1 (by decide) e)))
      have c1 := hR1.2.2.2.1 1 (by decide)
      have i1 := hR1.2.2.2.2
      have no : rdA B x y = none → mret (some .boolean) (sp_rag r F j pk cu ids fnd m d B x y) [.inr (.inr (some r))] S (some (.inl 0)) S1 0 0 := fun e => ⟨Or.inl rfl, ⟨0, rfl, x1, Or.inr ⟨rfl, e⟩⟩, Nat.le_refl _, Nat.le_refl _⟩
      refine ⟨300, ?_⟩
      show (isO S1 9 r ∧ (((mI S1 909 r) ≤ (nI L.length) → (isO S1 9 r ∧ (0 = 0 ∧ ((pa (mR S1 902 r) fun a_1 => (∃ (s_2 p_3 q_4 : Nat), (Cu S1 a_1 s_2 p_3 q_4) ∧ 0 ≤ 0 ∧ 0 ≤ 0 ∧ ((([] : List MV) = [] ∧ mret (some .boolean) (sp_rag r F j pk cu ids fnd m d B x y) [.inr (.inr (some r))] S (some (.inl (tf (q_4 ≤ p_3)))) S1 0 0)))))))) ∧ (¬ (mI S1 909 r) ≤ (nI L.length) → (isO S1 9 r ∧ (isO S1 9 r ∧ (0 = 0 ∧ ((pa (mR S1 902 r) fun a_6 => (∃ (s_7 d_8 p_9 q_10 : Nat) (B_11 : List Nat), (Cu S1 a_6 s_7 p_9 q_10 ∧ By S1 s_7 d_8 B_11) ∧ 0 ≤ 0 ∧ 0 ≤ 0 ∧ ((pa (mR S1 907 r) fun a_13 => isO (sI S1 301 a_6 (nI (vint B_11 q_10 p_9).2)) 17 a_13 ∧ inR (sI S1 301 a_6 (nI (vint B_11 q_10 p_9).2)) a_13 (nI L.length) ∧ (∃ k1, k1 < 600 * k ∧ I_rgb r m ids (cu 1) x y B S k1 [(1, .inl (nI L.length)), (0, .inr (.inr (some r)))] [] (rI (sI S1 301 a_6 (nI (vint B_11 q_10 p_9).2)) a_13 (upd (eI (sI S1 301 a_6 (nI (vint B_11 q_10 p_9).2)) a_13) (nI L.length).toNatClampNeg (oI (vint B_11 q_10 p_9).1))) 0 0))))))))))))
      rw [x3]
      refine ⟨hR1.1, if_le (by omega) (by omega) (fun h8 => ⟨hR1.1, rfl, pa_i c1.1 ⟨m, p, y, x2, Nat.le_refl _, Nat.le_refl _, rfl, ?_⟩⟩) (fun h8 => ?_)⟩
      · have k0 : k = 0 := by omega
        subst k0
        have e4 := rdA_4 l1 l2 (L := L) (p := p) (by rw [← l5]; rfl)
        have hn : n = L.length := by omega
        unfold tf
        by_cases q : y ≤ p
        · rw [if_pos q] at e4 ⊢
          exact ⟨Or.inr rfl, ⟨1, rfl, x1, Or.inl ⟨rfl, L, e4, by omega, l4, by rw [x3, hn], x4⟩⟩, Nat.le_refl _, Nat.le_refl _⟩
        · rw [if_neg q] at e4 ⊢
          exact no e4
      · obtain ⟨k, rfl⟩ : ∃ k', k = k' + 1 := ⟨k - 1, by omega⟩
        have ic : ids ≠ cu 1 := isO_ne i1.2.1 c1.2.1 (by decide)
        have hv := vint_le (B := B) x2.2.2.2.2.1
        refine ⟨hR1.1, hR1.1, rfl, pa_i c1.1 ⟨m, d, p, y, B, ⟨x2, hB1⟩, Nat.le_refl _, Nat.le_refl _, pa_i i1.1 ⟨isO_sI i1.2.1, inRn i1.2.2.1 (by omega) (by decide), 600 * k + 599, by omega, n, k, L, p, rfl, ⟨l1, l2, by omega, l4, l5⟩, ⟨(x1.wIo (Or.inl rfl) (hR1.cr (by decide))).wE (Or.inr rfl), ?_, ?_, fun q hq => ?_⟩, ?_, rfl, rfl, rfl, rfl⟩⟩⟩
        · exact (x2.mv hv.2).keep (Keep.rI (P := fun b => b = ids) Keep.rf rfl) (fun e => ic e.symm)
        · rw [mI_rI, mI_sI, if_neg (fun z => hR1.cr (a := 1) (by decide) z.2)]; exact x3
        · rw [nI_clamp (by omega), eI_rI, if_pos rfl]
          rw [show upd (eI (sI S1 301 (cu 1) (nI (vint B y p).2)) ids) L.length (oI (vint B y p).1) q = eI S1 ids q from if_neg (by omega)]
          exact x4 q hq
        · rw [nI_clamp (by omega), eI_rI, if_pos rfl]
          exact if_pos rfl
    · cases hm
      obtain ⟨n, k, L, p, rfl, hL, hX, hv, rfl, rfl, rfl, rfl⟩ := h
      obtain ⟨hR, hC, hB⟩ := hp
      obtain ⟨x1, x2, x3, x4⟩ := hX
      obtain ⟨l1, l2, l3, l4, l5⟩ := hL
      have hR1 := x1.rd hR (fun q hq => by rw [List.mem_singleton.mp hq]; decide)
      have hB1 : By S1 m d B := hB.keep x1.1 (fun z => z.elim (fun e => isO_ne hB.1 hR.1 (by decide) e) (fun z => z.elim (fun e => isO_ne hB.1 hC.1 (by decide) e) (fun e => isO_ne hB.1 hR.2.2.2.2.2.1 (by decide) e))) (fun z => z.elim (fun e => isO_ne hB.2.2.1 hR.1 (by decide) e) (fun z => z.elim (fun e => isO_ne hB.2.2.1 hC.1 (by decide) e) (fun e => isO_ne hB.2.2.1 hR.2.2.2.2.2.1 (by decide) e)))
      have c1 := hR1.2.2.2.1 1 (by decide)
      have i1 := hR1.2.2.2.2
      have no : rdA B x y = none → mret (some .boolean) (sp_rag r F j pk cu ids fnd m d B x y) [.inr (.inr (some r))] S (some (.inl 0)) S1 0 0 := fun e => ⟨Or.inl rfl, ⟨0, rfl, x1, Or.inr ⟨rfl, e⟩⟩, Nat.le_refl _, Nat.le_refl _⟩
      refine ⟨300, ?_⟩
      show (isO S1 9 r ∧ (pa (mR S1 907 r) fun a_1 => ∃ v_2 : Int32, (isO S1 17 a_1 ∧ inR S1 a_1 (nI L.length) ∧ v_2 = eI S1 a_1 (nI L.length).toNatClampNeg ∨ a_1 = (mQ S1).1 ∧ vp_in (nI L.length) 16 ∧ v_2 = mRem (nI L.length).toNatClampNeg) ∧ ((v_2 < 0 → (([] : List MV) = [] ∧ mret (some .boolean) (sp_rag r F j pk cu ids fnd m d B x y) [.inr (.inr (some r))] S (some (.inl (0 : Int32))) S1 0 0)) ∧ (¬ v_2 < 0 → (isO S1 9 r ∧ (pa (mR S1 907 r) fun a_3 => ∃ v_4 : Int32, (isO S1 17 a_3 ∧ inR S1 a_3 (nI L.length) ∧ v_4 = eI S1 a_3 (nI L.length).toNatClampNeg ∨ a_3 = (mQ S1).1 ∧ vp_in (nI L.length) 16 ∧ v_4 = mRem (nI L.length).toNatClampNeg) ∧ ((v_4 < (256 : Int32) → (∃ k1, k1 < 600 * k + 599 ∧ I_rgc r m ids (cu 1) x y B S k1 [(2, .inl (0 : Int32)), (1, .inl (nI L.length)), (0, .inr (.inr (some r)))] [] S1 0 0)) ∧ (¬ v_4 < (256 : Int32) → (([] : List MV) = [] ∧ mret (some .boolean) (sp_rag r F j pk cu ids fnd m d B x y) [.inr (.inr (some r))] S (some (.inl (0 : Int32))) S1 0 0)))))))))
      have rd : isO S1 17 ids ∧ inR S1 ids (nI L.length) ∧ oI (vint B y p).1 = eI S1 ids (nI L.length).toNatClampNeg := ⟨i1.2.1, inRn i1.2.2.1 (by omega) (by decide), by rw [nI_clamp (by omega)]; exact hv.symm⟩
      refine ⟨hR1.1, pa_i i1.1 ⟨_, Or.inl rd, ?_⟩⟩
      cases ev : (vint B y p).1 with
      | none => exact ⟨fun _ => ⟨rfl, no (rdA_3 l1 l2 (l5.symm.trans (agR_1 ev)))⟩, fun z => absurd (by decide) z⟩
      | some a =>
        rw [ev] at rd hv
        have hn := vint_lt hB.bytesLt ev
        refine ⟨fun z => absurd z (nI_pos hn), fun _ => ⟨hR1.1, pa_i i1.1 ⟨nI a, Or.inl rd, if_lt (b := 256) (by omega) (by decide) (fun h8 => ⟨600 * k + 1 + (L.length - 0), by omega, n, k, L, p, a, 0, rfl, ⟨l1, l2, l3, l4, l5⟩, ⟨x1, x2, x3, x4⟩, ev, h8, hv, Nat.zero_le _, fun h z => absurd z (Nat.not_lt_zero h), rfl, rfl, rfl, rfl⟩) (fun h8 => ⟨rfl, no (rdA_3 l1 l2 (l5.symm.trans (agR_2 ev (fun z => by omega))))⟩)⟩⟩⟩
    · cases hm
      obtain ⟨n, k, L, p, a, i, rfl, hL, hX, hv, ha, he, hi, hn, rfl, rfl, rfl, rfl⟩ := h
      obtain ⟨hR, hC, hB⟩ := hp
      obtain ⟨x1, x2, x3, x4⟩ := hX
      obtain ⟨l1, l2, l3, l4, l5⟩ := hL
      have hR1 := x1.rd hR (fun q hq => by rw [List.mem_singleton.mp hq]; decide)
      have hB1 : By S1 m d B := hB.keep x1.1 (fun z => z.elim (fun e => isO_ne hB.1 hR.1 (by decide) e) (fun z => z.elim (fun e => isO_ne hB.1 hC.1 (by decide) e) (fun e => isO_ne hB.1 hR.2.2.2.2.2.1 (by decide) e))) (fun z => z.elim (fun e => isO_ne hB.2.2.1 hR.1 (by decide) e) (fun z => z.elim (fun e => isO_ne hB.2.2.1 hC.1 (by decide) e) (fun e => isO_ne hB.2.2.1 hR.2.2.2.2.2.1 (by decide) e)))
      have c1 := hR1.2.2.2.1 1 (by decide)
      have i1 := hR1.2.2.2.2
      have no : rdA B x y = none → mret (some .boolean) (sp_rag r F j pk cu ids fnd m d B x y) [.inr (.inr (some r))] S (some (.inl 0)) S1 0 0 := fun e => ⟨Or.inl rfl, ⟨0, rfl, x1, Or.inr ⟨rfl, e⟩⟩, Nat.le_refl _, Nat.le_refl _⟩
      refine ⟨300, ?_⟩
      show (((nI L.length) ≤ (nI i) → (∃ k1, k1 < 600 * k + 1 + (L.length - i) ∧ I_rga r m ids (cu 1) x y B S k1 [(1, .inl ((nI L.length) + (1 : Int32))), (0, .inr (.inr (some r)))] [] S1 0 0)) ∧ (¬ (nI L.length) ≤ (nI i) → (isO S1 9 r ∧ (pa (mR S1 907 r) fun a_1 => ∃ v_2 : Int32, (isO S1 17 a_1 ∧ inR S1 a_1 (nI i) ∧ v_2 = eI S1 a_1 (nI i).toNatClampNeg ∨ a_1 = (mQ S1).1 ∧ vp_in (nI i) 16 ∧ v_2 = mRem (nI i).toNatClampNeg) ∧ (isO S1 9 r ∧ (pa (mR S1 907 r) fun a_3 => ∃ v_4 : Int32, (isO S1 17 a_3 ∧ inR S1 a_3 (nI L.length) ∧ v_4 = eI S1 a_3 (nI L.length).toNatClampNeg ∨ a_3 = (mQ S1).1 ∧ vp_in (nI L.length) 16 ∧ v_4 = mRem (nI L.length).toNatClampNeg) ∧ ((¬ v_2 = v_4 → (∃ k1, k1 < 600 * k + 1 + (L.length - i) ∧ I_rgc r m ids (cu 1) x y B S k1 [(2, .inl ((nI i) + (1 : Int32))), (1, .inl (nI L.length)), (0, .inr (.inr (some r)))] [] S1 0 0)) ∧ (v_2 = v_4 → (([] : List MV) = [] ∧ mret (some .boolean) (sp_rag r F j pk cu ids fnd m d B x y) [.inr (.inr (some r))] S (some (.inl (0 : Int32))) S1 0 0)))))))))
      refine if_le (by omega) (by omega) (fun h8 => ?_) (fun h8 => ⟨hR1.1, pa_i i1.1 ⟨nI (L.getD i 0), Or.inl ⟨i1.2.1, inRn i1.2.2.1 (by omega) (by decide), ?_⟩, hR1.1, pa_i i1.1 ⟨nI a, Or.inl ⟨i1.2.1, inRn i1.2.2.1 (by omega) (by decide), ?_⟩, fun z => ?_, fun z => ⟨rfl, no (rdA_3 l1 l2 (l5.symm.trans (agR_2 hv ?_)))⟩⟩⟩⟩)
      · have hni : a ∉ L := fun z => by
          obtain ⟨q, hq, e⟩ := List.getElem_of_mem z
          exact hn q (by omega) (by rw [List.getD_eq_getElem?_getD, List.getElem?_eq_getElem hq]; exact e)
        have hl : (L ++ [a]).length = L.length + 1 := by rw [List.length_append, List.length_singleton]
        refine ⟨600 * k, by omega, n, k, L ++ [a], (vint B y p).2, rfl, ⟨l1, l2, by rw [hl]; omega, fun q hq => ?_, ?_⟩, ⟨x1, x2, x3, fun q hq => ?_⟩, by rw [hl]; rw [← nI_add]; rfl, rfl, rfl, rfl⟩
        · rcases List.mem_append.mp hq with z | z
          · exact l4 q z
          · rw [List.mem_singleton.mp z]; exact ha
        · rw [← agR_3 hv ⟨ha, hni⟩]; exact l5
        · rw [hl] at hq
          rcases Nat.lt_or_ge q L.length with z | z
          · rw [List.getD_eq_getElem?_getD, List.getElem?_append_left z, ← List.getD_eq_getElem?_getD]
            exact x4 q z
          · have e : q = L.length := by omega
            subst e
            rw [List.getD_eq_getElem?_getD, List.getElem?_append_right (Nat.le_refl _), Nat.sub_self]
            exact he
      · rw [nI_clamp (by omega)]; exact (x4 i h8).symm
      · rw [nI_clamp (by omega)]; exact he.symm
      · refine ⟨600 * k + 1 + (L.length - (i + 1)), by omega, n, k, L, p, a, i + 1, rfl, ⟨l1, l2, l3, l4, l5⟩, ⟨x1, x2, x3, x4⟩, hv, ha, he, h8, fun h hh => ?_, by rw [← nI_add]; rfl, rfl, rfl, rfl⟩
        rcases Nat.lt_or_ge h i with q | q
        · exact hn h q
        · rw [show h = i from by omega]; exact fun e => z (by rw [e])
      · have hg : L.getD i 0 ∈ L := by
          rw [List.getD_eq_getElem?_getD, List.getElem?_eq_getElem h8]
          exact List.getElem_mem h8
        have e : L.getD i 0 = a := (nI_eq (by have := l4 _ hg; omega) (by omega)).1 z
        exact fun q => q.2 (e ▸ hg)
theorem u_rag (l : Launch) : Us l yX8_readAgents cX8_readAgents 3 (some .boolean) 2 44 9 T_rag := by
  intro Rc Rs av S cs sl K Kx h
  unfold T_rag at h
  split at h
  · rename_i r_o
    obtain ⟨r, rfl, h_1⟩ := pa_of h
    obtain ⟨F, j, pk, cu, ids, fnd, m, d, B, x, y, hp, hc, hs, hk⟩ := h_1
    refine ⟨(sp_rag r F j pk cu ids fnd m d B x y), c_rag l r F j pk cu ids fnd m d B x y, fun _ _ h9 => ⟨_, _, h9.1, h9.2.1.1⟩, ⟨rfl, hp⟩, hc, hs, fun v9 S' h8 => by
      obtain ⟨v8, h7, h8⟩ := h8
      cases h7
      exact hk _ _ h8, fun _ _ q => q.elim⟩
  · exact h.elim
