/-! ===== PatchReader.readSpan ===== -/
/-- a span: agent, number, size, code of its parents, the parents, where they stand, kind, index -/
abbrev SpT : Type := Nat × Nat × Nat × Nat × List (Nat × Nat) × Nat × Nat × Int
/-- where the three columns are read on, and the index that is expected -/
abbrev RdT : Type := Nat × Nat × Nat × Int
def rdS (B : List Nat) (L : List Nat) (qs qp qo : Nat) (st : RdT) : Option (SpT × RdT) :=
  (vint B qs st.1).1.bind fun a => (vint B qs (vint B qs st.1).2).1.bind fun nu => (vint B qs (vint B qs (vint B qs st.1).2).2).1.bind fun z => if a < L.length ∧ 1 ≤ z then (rdP B L.length qp st.2.1).bind fun P => (rdO B qo st.2.2.1 z st.2.2.2).bind fun O => some ((L.getD a 0, nu, z, P.1, P.2.1, (vint B qp st.2.1).2, O.1, O.2.1), ((vint B qs (vint B qs (vint B qs st.1).2).2).2, P.2.2, O.2.2.2, O.2.2.1)) else none
def SpM (S : MM) (r : Nat) (s : SpT) : Prop := mI S 912 r = nI s.1 ∧ mI S 913 r = nI s.2.1 ∧ mI S 914 r = nI s.2.2.1 ∧ mI S 915 r = nI s.2.2.2.1 - 1 ∧ mI S 916 r = nI s.2.2.2.2.2.1 ∧ mI S 917 r = nI s.2.2.2.2.2.2.1 ∧ mJ S 918 r = lZ s.2.2.2.2.2.2.2
def RdM (S : MM) (r m ids : Nat) (cu : Nat → Nat) (L : List Nat) (qs qp qo : Nat) (st : RdT) : Prop := Cu S (cu 2) m st.1 qs ∧ Cu S (cu 3) m st.2.1 qp ∧ Cu S (cu 4) m st.2.2.1 qo ∧ mI S 909 r = nI L.length ∧ L.length ≤ 256 ∧ (∀ k, k < L.length → eI S ids k = nI (L.getD k 0)) ∧ mJ S 919 r = lZ st.2.2.2
def CuS (cu : Nat → Nat) (b : Nat) : Prop := b = cu 2 ∨ b = cu 3 ∨ b = cu 4
def rsQ (r m ids : Nat) (cu : Nat → Nat) (L : List Nat) (qs qp qo : Nat) (st : RdT) (B : List Nat) (S S' : MM) (v : Int32) : Prop := RW (CuS cu) [912, 913, 914, 915, 916, 917, 918, 919] r S S' ∧ ((v = 1 ∧ ∃ s st', rdS B L qs qp qo st = some (s, st') ∧ s.2.2.2.2.2.2.1 < 3 ∧ s.1 < 2147483648 ∧ s.2.1 < 2147483648 ∧ 1 ≤ s.2.2.1 ∧ s.2.2.1 < 2147483648 ∧ s.2.2.2.1 < 2147483648 ∧ SpM S' r s ∧ RdM S' r m ids cu L qs qp qo st') ∨ (v = 0 ∧ rdS B L qs qp qo st = none))
section RDK
variable {S S1 : MM} {F : Nat → Nat × Nat} {j r pk ids fnd m p q : Nat} {cu : Nat → Nat} {P : Nat → Prop} {qs : List Nat}
theorem RW.cuk (h : RW P qs r S S1) (hR : RD S F j r pk cu ids fnd) {a : Nat} (ha : a < 6) (hP : ¬ P (cu a)) (hC : Cu S (cu a) m p q) : Cu S1 (cu a) m p q := hC.keep h.1 (fun z => z.elim (fun e => hR.cr ha e.symm) hP)
theorem RW.idk (h : RW P qs r S S1) (hR : RD S F j r pk cu ids fnd) (hP : ∀ b, P b → ∃ k, k < 6 ∧ b = cu k) : eI S1 ids = eI S ids := (h.1.2.1 ids hR.2.2.2.2.2.1.1 (fun z => z.elim (fun e => isO_ne hR.2.2.2.2.2.1 hR.1 (by decide) e) (fun z => by obtain ⟨k, h1, h2⟩ := hP ids z; exact isO_ne hR.2.2.2.2.2.1 (hR.2.2.2.1 k h1).2.1 (by decide) h2))).2.2.2.1
theorem RW.byc {d : Nat} {B : List Nat} (h : RW P qs r S S1) (hR : RD S F j r pk cu ids fnd) (hB : By S m d B) (hP : ∀ b, P b → ∃ k, k < 6 ∧ b = cu k) : By S1 m d B := h.by hR.1 hB (fun b z => by obtain ⟨k, h1, h2⟩ := hP b z; exact ⟨3, h2 ▸ (hR.2.2.2.1 k h1).2.1, by decide, by decide⟩)
end RDK
section RDSS
variable {B L : List Nat} {qs qp qo : Nat} {st : RdT} {a nu z : Nat}
theorem rdS_1 (h : (vint B qs st.1).1 = none) : rdS B L qs qp qo st = none := by unfold rdS; rw [h]; rfl
theorem rdS_2 (h : (vint B qs (vint B qs st.1).2).1 = none) : rdS B L qs qp qo st = none := by
  unfold rdS
  rw [h]
  cases (vint B qs st.1).1 <;> rfl
theorem rdS_3 (h : (vint B qs (vint B qs (vint B qs st.1).2).2).1 = none) : rdS B L qs qp qo st = none := by
  unfold rdS
  rw [h]
  cases (vint B qs st.1).1
  · rfl
  · cases (vint B qs (vint B qs st.1).2).1 <;> rfl
theorem rdS_4 (h1 : (vint B qs st.1).1 = some a) (h2 : (vint B qs (vint B qs st.1).2).1 = some nu) (h3 : (vint B qs (vint B qs (vint B qs st.1).2).2).1 = some z) (hn : ¬ (a < L.length ∧ 1 ≤ z)) : rdS B L qs qp qo st = none := by
  unfold rdS
  rw [h1, h2, h3]
  exact if_neg hn
theorem rdS_4a (h1 : (vint B qs st.1).1 = some a) (hn : ¬ a < L.length) : rdS B L qs qp qo st = none := by
  cases h2 : (vint B qs (vint B qs st.1).2).1 with
  | none => exact rdS_2 h2
  | some nu =>
    cases h3 : (vint B qs (vint B qs (vint B qs st.1).2).2).1 with
    | none => exact rdS_3 h3
    | some z => exact rdS_4 h1 h2 h3 (fun w => hn w.1)
theorem rdS_5 (h1 : (vint B qs st.1).1 = some a) (h2 : (vint B qs (vint B qs st.1).2).1 = some nu) (h3 : (vint B qs (vint B qs (vint B qs st.1).2).2).1 = some z) (hn : a < L.length ∧ 1 ≤ z) : rdS B L qs qp qo st = (rdP B L.length qp st.2.1).bind fun P => (rdO B qo st.2.2.1 z st.2.2.2).bind fun O => some ((L.getD a 0, nu, z, P.1, P.2.1, (vint B qp st.2.1).2, O.1, O.2.1), ((vint B qs (vint B qs (vint B qs st.1).2).2).2, P.2.2, O.2.2.2, O.2.2.1)) := by
  unfold rdS
  rw [h1, h2, h3]
  exact if_pos hn
end RDSS
def rsW (r m : Nat) (cu : Nat → Nat) (qs : Nat) (S S1 : MM) (p : Nat) : Prop := RW (fun b => b = cu 2) [912, 913, 914] r S S1 ∧ Cu S1 (cu 2) m p qs
def I_rs1 (r m : Nat) (cu : Nat → Nat) (qs : Nat) (st : RdT) (B : List Nat) (S : MM) (t : Nat) : KT := fun lo sk S1 cs sl => t = 5 ∧ rsW r m cu qs S S1 (vint B qs st.1).2 ∧ lo = [(1, .inl (oI (vint B qs st.1).1)), (0, .inr (.inr (some r)))] ∧ sk = [] ∧ cs = 0 ∧ sl = 0
def I_rs2 (r m : Nat) (cu : Nat → Nat) (qs : Nat) (st : RdT) (B : List Nat) (S : MM) (t : Nat) : KT := fun lo sk S1 cs sl => t = 4 ∧ rsW r m cu qs S S1 (vint B qs (vint B qs st.1).2).2 ∧ mI S1 913 r = oI (vint B qs (vint B qs st.1).2).1 ∧ lo = [(1, .inl (oI (vint B qs st.1).1)), (0, .inr (.inr (some r)))] ∧ sk = [] ∧ cs = 0 ∧ sl = 0
def I_rs3 (r m : Nat) (cu : Nat → Nat) (qs : Nat) (st : RdT) (B : List Nat) (S : MM) (t : Nat) : KT := fun lo sk S1 cs sl => t = 3 ∧ rsW r m cu qs S S1 (vint B qs (vint B qs (vint B qs st.1).2).2).2 ∧ mI S1 913 r = oI (vint B qs (vint B qs st.1).2).1 ∧ mI S1 914 r = oI (vint B qs (vint B qs (vint B qs st.1).2).2).1 ∧ lo = [(1, .inl (oI (vint B qs st.1).1)), (0, .inr (.inr (some r)))] ∧ sk = [] ∧ cs = 0 ∧ sl = 0
def rsF (L : List Nat) (qs : Nat) (st : RdT) (B : List Nat) (a nu z : Nat) : Prop := (vint B qs st.1).1 = some a ∧ (vint B qs (vint B qs st.1).2).1 = some nu ∧ (vint B qs (vint B qs (vint B qs st.1).2).2).1 = some z ∧ a < L.length ∧ 1 ≤ z
def I_rs4 (r m : Nat) (cu : Nat → Nat) (L : List Nat) (qs : Nat) (st : RdT) (B : List Nat) (S : MM) (t : Nat) : KT := fun lo sk S1 cs sl => ∃ a nu z, t = 2 ∧ rsF L qs st B a nu z ∧ rsW r m cu qs S S1 (vint B qs (vint B qs (vint B qs st.1).2).2).2 ∧ mI S1 912 r = nI (L.getD a 0) ∧ mI S1 913 r = nI nu ∧ mI S1 914 r = nI z ∧ lo = [(0, .inr (.inr (some r)))] ∧ sk = [] ∧ cs = 0 ∧ sl = 0
def I_rs5 (r m : Nat) (cu : Nat → Nat) (L : List Nat) (qs qp : Nat) (st : RdT) (B : List Nat) (S : MM) (t : Nat) : KT := fun lo sk S1 cs sl => ∃ a nu z c P p', t = 1 ∧ rsF L qs st B a nu z ∧ rdP B L.length qp st.2.1 = some (c, P, p') ∧ c < 2147483648 ∧ RW (fun b => b = cu 2 ∨ b = cu 3) [912, 913, 914, 915, 916] r S S1 ∧ Cu S1 (cu 2) m (vint B qs (vint B qs (vint B qs st.1).2).2).2 qs ∧ Cu S1 (cu 3) m p' qp ∧ mI S1 912 r = nI (L.getD a 0) ∧ mI S1 913 r = nI nu ∧ mI S1 914 r = nI z ∧ mI S1 915 r = nI c - 1 ∧ mI S1 916 r = nI (vint B qp st.2.1).2 ∧ lo = [(0, .inr (.inr (some r)))] ∧ sk = [] ∧ cs = 0 ∧ sl = 0
def T_rsp : TR := fun Rc Rs av S cs sl K _Kx => match av with
  | [.inr (.inr r_o)] => pa r_o fun r => (∃ (F : Nat → Nat × Nat) (j pk : Nat) (cu : Nat → Nat) (ids fnd m d : Nat) (B L : List Nat) (qs qp qo : Nat) (st : RdT), (RD S F j r pk cu ids fnd ∧ By S m d B ∧ RdM S r m ids cu L qs qp qo st ∧ (∀ a ∈ L, a < 256) ∧ -1000000000000000 ≤ st.2.2.2 ∧ st.2.2.2 ≤ 1000000000000000) ∧ cs ≤ Rc ∧ sl ≤ Rs ∧ (∀ (v : Int32) (S' : MM), (rsQ r m ids cu L qs qp qo st B S S' v) → K (some (.inl v)) S' cs sl))
  | _ => False
def sp_rsp (r : Nat) (F : Nat → Nat × Nat) (j pk : Nat) (cu : Nat → Nat) (ids fnd m d : Nat) (B L : List Nat) (qs qp qo : Nat) (st : RdT) : Sp := (fun av S => av = [.inr (.inr (some r))] ∧ (RD S F j r pk cu ids fnd ∧ By S m d B ∧ RdM S r m ids cu L qs qp qo st ∧ (∀ a ∈ L, a < 256) ∧ -1000000000000000 ≤ st.2.2.2 ∧ st.2.2.2 ≤ 1000000000000000), fun _ S => 0, fun _ S => 0, fun _ S rv S' => ∃ v, rv = (some (.inl v)) ∧ (rsQ r m ids cu L qs qp qo st B S S' v), fun _ _ _ _ => False)
def tX8_readSpan : CD := [(0, .aload_n 0), (1, .getfield 21), (4, .invokevirtual 122), (7, .istore_n 1), (8, .aload_n 0), (9, .aload_n 0), (10, .getfield 21), (13, .invokevirtual 122), (16, .putfield 57), (19, .aload_n 0), (20, .aload_n 0), (21, .getfield 21), (24, .invokevirtual 122), (27, .putfield 60), (30, .iload_n 1), (31, .ifCond .lt 26), (34, .iload_n 1), (35, .aload_n 0), (36, .getfield 43), (39, .if_icmp .ge 18), (42, .aload_n 0), (43, .getfield 57), (46, .ifCond .lt 11), (49, .aload_n 0), (50, .getfield 60), (53, .iconst 1), (54, .if_icmp .ge 5), (57, .iconst 0), (58, .ireturn), (59, .aload_n 0), (60, .aload_n 0), (61, .getfield 33), (64, .iload_n 1), (65, .iaload), (66, .putfield 54), (69, .aload_n 0), (70, .invokevirtual 128), (73, .ifCond .eq 14), (76, .aload_n 0), (77, .invokevirtual 131), (80, .ifCond .eq 7), (83, .iconst 1), (84, .goto 4), (87, .iconst 0), (88, .ireturn)]
set_option maxRecDepth 100000 in
theorem kX8_readSpan : chk cX8_readSpan tX8_readSpan = true := by decide +kernel
theorem vX8_readSpan_122 : ∀ w ∈ ([.methodLink RX8 122 yX2_varint, .instanceMethod yX2_varint, .selects yX2_varint.cls yX2_varint yX2_varint, .initialized yX2_varint.cls, .code yX2_varint cX2_varint 4 (some .int)] : List Cond), w ∈ lw_good := List.forall_mem_cons.mpr ⟨mgd 1512 (by decide +kernel) (by decide +kernel), List.forall_mem_cons.mpr ⟨mgd 1482 (by decide +kernel) (by decide +kernel), List.forall_mem_cons.mpr ⟨mgd 1483 (by decide +kernel) (by decide +kernel), List.forall_mem_cons.mpr ⟨mgd 131 (by decide +kernel) (by decide +kernel), List.forall_mem_cons.mpr ⟨mgd 1484 (by decide +kernel) (by decide +kernel), fun _ h => absurd h List.not_mem_nil⟩⟩⟩⟩⟩
theorem vX8_readSpan_128 : ∀ w ∈ ([.methodLink RX8 128 yX8_readParents, .instanceMethod yX8_readParents, .selects yX8_readParents.cls yX8_readParents yX8_readParents, .initialized yX8_readParents.cls, .code yX8_readParents cX8_readParents 4 (some .boolean)] : List Cond), w ∈ lw_good := List.forall_mem_cons.mpr ⟨mgd 1538 (by decide +kernel) (by decide +kernel), List.forall_mem_cons.mpr ⟨mgd 1540 (by decide +kernel) (by decide +kernel), List.forall_mem_cons.mpr ⟨mgd 43 (by decide +kernel) (by decide +kernel), List.forall_mem_cons.mpr ⟨mgd 134 (by decide +kernel) (by decide +kernel), List.forall_mem_cons.mpr ⟨mgd 1541 (by decide +kernel) (by decide +kernel), fun _ h => absurd h List.not_mem_nil⟩⟩⟩⟩⟩
theorem vX8_readSpan_131 : ∀ w ∈ ([.methodLink RX8 131 yX8_readOp, .instanceMethod yX8_readOp, .selects yX8_readOp.cls yX8_readOp yX8_readOp, .initialized yX8_readOp.cls, .code yX8_readOp cX8_readOp 5 (some .boolean)] : List Cond), w ∈ lw_good := List.forall_mem_cons.mpr ⟨mgd 1542 (by decide +kernel) (by decide +kernel), List.forall_mem_cons.mpr ⟨mgd 1544 (by decide +kernel) (by decide +kernel), List.forall_mem_cons.mpr ⟨mgd 44 (by decide +kernel) (by decide +kernel), List.forall_mem_cons.mpr ⟨mgd 134 (by decide +kernel) (by decide +kernel), List.forall_mem_cons.mpr ⟨mgd 1545 (by decide +kernel) (by decide +kernel), fun _ h => absurd h List.not_mem_nil⟩⟩⟩⟩⟩
set_option maxRecDepth 100000 in
set_option maxHeartbeats 2000000 in
theorem c_rsp (l : Launch) : ∀ (r : Nat) (F : Nat → Nat × Nat) (j pk : Nat) (cu : Nat → Nat) (ids fnd m d : Nat) (B L : List Nat) (qs qp qo : Nat) (st : RdT), Ct l yX8_readSpan cX8_readSpan 2 (some .boolean) 3 68 (sp_rsp r F j pk cu ids fnd m d B L qs qp qo st) := by
  intro r F j pk cu ids fnd m d B L qs qp qo st
  refine Ct.of (fX8, nX8, aX8, iX8, lX8, [(122, 0, 1, 1, T_cvar), (128, 0, 1, 1, T_rrp), (131, 0, 1, 1, T_rro)], qX8, gX8, []) false tX8_readSpan (fun _ S => look [(8, ([1,0], I_rs1 r m cu qs st B S)), (19, ([1,0], I_rs2 r m cu qs st B S)), (30, ([1,0], I_rs3 r m cu qs st B S)), (69, ([0], I_rs4 r m cu L qs st B S)), (76, ([0], I_rs5 r m cu L qs qp st B S))]) (by decide) (by decide) kX8_readSpan ⟨_, _, rfl⟩ fX8_ok nX8_ok aX8_ok iX8_ok lX8_ok (fun p e R s m args below meth c Q D cy z r A C hR1 hR2 => List.forall_mem_cons.mpr ⟨cOK_use (fun _ _ _ _ _ _ _ _ h => let ⟨sp, h1, h2, h3⟩ := u_cvar l _ _ _ _ _ _ _ _ h; ⟨sp, cOK_V C h1 vX8_readSpan_122 ⟨by decide, by decide, by decide +kernel⟩ ⟨by rw [hR1]; decide, by rw [hR2]; decide⟩ (k := 3) (T := TX2) (N := 3) rfl (by decide) h2, h3⟩), List.forall_mem_cons.mpr ⟨cOK_use (fun _ _ _ _ _ _ _ _ h => let ⟨sp, h1, h2, h3⟩ := u_rrp l _ _ _ _ _ _ _ _ h; ⟨sp, cOK_V C h1 vX8_readSpan_128 ⟨by decide, by decide, by decide +kernel⟩ ⟨by rw [hR1]; decide, by rw [hR2]; decide⟩ (k := 9) (T := TX8) (N := 20) rfl (by decide) h2, h3⟩), List.forall_mem_cons.mpr ⟨cOK_use (fun _ _ _ _ _ _ _ _ h => let ⟨sp, h1, h2, h3⟩ := u_rro l _ _ _ _ _ _ _ _ h; ⟨sp, cOK_V C h1 vX8_readSpan_131 ⟨by decide, by decide, by decide +kernel⟩ ⟨by rw [hR1]; decide, by rw [hR2]; decide⟩ (k := 9) (T := TX8) (N := 20) rfl (by decide) h2, h3⟩), fun _ h => absurd h List.not_mem_nil⟩⟩⟩) qX8_ok gX8_ok rfl ?_ ?_
  · rintro _ S ⟨rfl, hp⟩
    refine ⟨Nat.le_of_ble_eq_true rfl, 300, ?_⟩
    show (isO S 9 r ∧ (0 = 0 ∧ ((pa (mR S 903 r) fun a_1 => (∃ (s_2 d_3 p_4 q_5 : Nat) (B_6 : List Nat), (Cu S a_1 s_2 p_4 q_5 ∧ By S s_2 d_3 B_6) ∧ 0 ≤ 0 ∧ 0 ≤ 0 ∧ ((∃ k1, I_rs1 r m cu qs st B S k1 [(1, .inl (oI (vint B_6 q_5 p_4).1)), (0, .inr (.inr (some r)))] [] (sI S 301 a_1 (nI (vint B_6 q_5 p_4).2)) 0 0)))))))
    obtain ⟨hR, hB, ⟨m1, m2, m3, m4, m5, m6, m7⟩, hL, he1, he2⟩ := hp
    have hv := vint_le (B := B) m1.2.2.2.2.1
    exact ⟨hR.1, rfl, pa_i (hR.2.2.2.1 2 (by decide)).1 ⟨m, d, st.1, qs, B, ⟨m1, hB⟩, Nat.le_refl _, Nat.le_refl _, 5, rfl, ⟨RW.rf.wIo rfl (hR.cr (by decide)), m1.mv hv.2⟩, rfl, rfl, rfl, rfl⟩⟩
  · intro av S hpre pc I hI k lo st S1 cs sl h
    obtain ⟨rfl, hp⟩ := hpre
    have hm := look_in hI
    simp only [List.mem_cons, List.not_mem_nil, or_false] at hm
    rcases hm with hm | hm | hm | hm | hm
    · cases hm
      obtain ⟨rfl, ⟨x1, x2⟩, rfl, rfl, rfl, rfl⟩ := h
      obtain ⟨hR, hB, ⟨m1, m2, m3, m4, m5, m6, m7⟩, hL, he1, he2⟩ := hp
      have hR1 := x1.rd hR (by decide)
      have hP1 : ∀ b, b = cu 2 → ∃ k, k < 6 ∧ b = cu k := fun b z => ⟨2, by decide, z⟩
      have hB1 : By S1 m d B := x1.byc hR hB hP1
      have i1 := hR1.2.2.2.2
      have rc := hR.cr (a := 2) (by decide)
      have hv := vint_le (B := B) x2.2.2.2.2.1
      refine ⟨300, ?_⟩
      show (isO S1 9 r ∧ (0 = 0 ∧ ((pa (mR S1 903 r) fun a_1 => (∃ (s_2 d_3 p_4 q_5 : Nat) (B_6 : List Nat), (Cu S1 a_1 s_2 p_4 q_5 ∧ By S1 s_2 d_3 B_6) ∧ 0 ≤ 0 ∧ 0 ≤ 0 ∧ ((True ∧ (isO (sI S1 301 a_1 (nI (vint B_6 q_5 p_4).2)) 9 r ∧ (∃ k1, k1 < 5 ∧ I_rs2 r m cu qs st B S k1 [(1, .inl (oI (vint B qs st.1).1)), (0, .inr (.inr (some r)))] [] (sI (sI S1 301 a_1 (nI (vint B_6 q_5 p_4).2)) 913 r (oI (vint B_6 q_5 p_4).1)) 0 0)))))))))
      refine ⟨hR1.1, rfl, pa_i (hR1.2.2.2.1 2 (by decide)).1 ⟨m, d, _, qs, B, ⟨x2, hB1⟩, Nat.le_refl _, Nat.le_refl _, trivial, hR1.1, 4, by decide, rfl, ⟨(x1.wIo rfl rc).wI (by decide), ?_⟩, mI_sIs, rfl, rfl, rfl, rfl⟩⟩
      exact (x2.mv hv.2).keep (Keep.sI (P := fun b => b = r) Keep.rf rfl) (fun e => rc e.symm)
    · cases hm
      obtain ⟨rfl, ⟨x1, x2⟩, x3, rfl, rfl, rfl, rfl⟩ := h
      obtain ⟨hR, hB, ⟨m1, m2, m3, m4, m5, m6, m7⟩, hL, he1, he2⟩ := hp
      have hR1 := x1.rd hR (by decide)
      have hP1 : ∀ b, b = cu 2 → ∃ k, k < 6 ∧ b = cu k := fun b z => ⟨2, by decide, z⟩
      have hB1 : By S1 m d B := x1.byc hR hB hP1
      have i1 := hR1.2.2.2.2
      have rc := hR.cr (a := 2) (by decide)
      have hv := vint_le (B := B) x2.2.2.2.2.1
      refine ⟨300, ?_⟩
      show (isO S1 9 r ∧ (0 = 0 ∧ ((pa (mR S1 903 r) fun a_1 => (∃ (s_2 d_3 p_4 q_5 : Nat) (B_6 : List Nat), (Cu S1 a_1 s_2 p_4 q_5 ∧ By S1 s_2 d_3 B_6) ∧ 0 ≤ 0 ∧ 0 ≤ 0 ∧ ((True ∧ (isO (sI S1 301 a_1 (nI (vint B_6 q_5 p_4).2)) 9 r ∧ (∃ k1, k1 < 4 ∧ I_rs3 r m cu qs st B S k1 [(1, .inl (oI (vint B qs st.1).1)), (0, .inr (.inr (some r)))] [] (sI (sI S1 301 a_1 (nI (vint B_6 q_5 p_4).2)) 914 r (oI (vint B_6 q_5 p_4).1)) 0 0)))))))))
      refine ⟨hR1.1, rfl, pa_i (hR1.2.2.2.1 2 (by decide)).1 ⟨m, d, _, qs, B, ⟨x2, hB1⟩, Nat.le_refl _, Nat.le_refl _, trivial, hR1.1, 3, by decide, rfl, ⟨(x1.wIo rfl rc).wI (by decide), ?_⟩, ?_, mI_sIs, rfl, rfl, rfl, rfl⟩⟩
      · exact (x2.mv hv.2).keep (Keep.sI (P := fun b => b = r) Keep.rf rfl) (fun e => rc e.symm)
      · rw [mI_sIn (by decide), mI_sI, if_neg (fun z => rc z.2)]; exact x3
    · cases hm
      obtain ⟨rfl, ⟨x1, x2⟩, x3, x4, rfl, rfl, rfl, rfl⟩ := h
      obtain ⟨hR, hB, ⟨m1, m2, m3, m4, m5, m6, m7⟩, hL, he1, he2⟩ := hp
      have hR1 := x1.rd hR (by decide)
      have hP1 : ∀ b, b = cu 2 → ∃ k, k < 6 ∧ b = cu k := fun b z => ⟨2, by decide, z⟩
      have hB1 : By S1 m d B := x1.byc hR hB hP1
      have i1 := hR1.2.2.2.2
      have rc := hR.cr (a := 2) (by decide)
      have hv := vint_le (B := B) x2.2.2.2.2.1
      refine ⟨300, ?_⟩
      show (((oI (vint B qs st.1).1) < 0 → (([] : List MV) = [] ∧ mret (some .boolean) (sp_rsp r F j pk cu ids fnd m d B L qs qp qo st) [.inr (.inr (some r))] S (some (.inl (0 : Int32))) S1 0 0)) ∧ (¬ (oI (vint B qs st.1).1) < 0 → (isO S1 9 r ∧ (((mI S1 909 r) ≤ (oI (vint B qs st.1).1) → (([] : List MV) = [] ∧ mret (some .boolean) (sp_rsp r F j pk cu ids fnd m d B L qs qp qo st) [.inr (.inr (some r))] S (some (.inl (0 : Int32))) S1 0 0)) ∧ (¬ (mI S1 909 r) ≤ (oI (vint B qs st.1).1) → (isO S1 9 r ∧ (((mI S1 913 r) < 0 → (([] : List MV) = [] ∧ mret (some .boolean) (sp_rsp r F j pk cu ids fnd m d B L qs qp qo st) [.inr (.inr (some r))] S (some (.inl (0 : Int32))) S1 0 0)) ∧ (¬ (mI S1 913 r) < 0 → (isO S1 9 r ∧ (((1 : Int32) ≤ (mI S1 914 r) → (isO S1 9 r ∧ (pa (mR S1 907 r) fun a_1 => ∃ v_2 : Int32, (isO S1 17 a_1 ∧ inR S1 a_1 (oI (vint B qs st.1).1) ∧ v_2 = eI S1 a_1 (oI (vint B qs st.1).1).toNatClampNeg ∨ a_1 = (mQ S1).1 ∧ vp_in (oI (vint B qs st.1).1) 16 ∧ v_2 = mRem (oI (vint B qs st.1).1).toNatClampNeg) ∧ (True ∧ (isO S1 9 r ∧ (∃ k1, k1 < 3 ∧ I_rs4 r m cu L qs st B S k1 [(0, .inr (.inr (some r)))] [] (sI S1 912 r v_2) 0 0)))))) ∧ (¬ (1 : Int32) ≤ (mI S1 914 r) → (([] : List MV) = [] ∧ mret (some .boolean) (sp_rsp r F j pk cu ids fnd m d B L qs qp qo st) [.inr (.inr (some r))] S (some (.inl (0 : Int32))) S1 0 0))))))))))))
      have no : rdS B L qs qp qo st = none → mret (some .boolean) (sp_rsp r F j pk cu ids fnd m d B L qs qp qo st) [.inr (.inr (some r))] S (some (.inl 0)) S1 0 0 := fun h => ⟨Or.inl rfl, ⟨0, rfl, x1.mono (fun b z => Or.inl z) (by decide), Or.inr ⟨rfl, h⟩⟩, Nat.le_refl _, Nat.le_refl _⟩
      have n9 : mI S1 909 r = nI L.length := (x1.2.1 909 (by decide)).trans m4
      rw [n9, x3, x4]
      cases ev : (vint B qs st.1).1 with
      | none => exact ⟨fun _ => ⟨rfl, no (rdS_1 ev)⟩, fun z => absurd (by decide) z⟩
      | some a =>
        have ha := vint_lt hB.bytesLt ev
        refine ⟨fun z => absurd z (nI_pos ha), fun _ => ⟨hR1.1, if_le (by omega) ha (fun h8 => ⟨rfl, no (rdS_4a ev (by omega))⟩) (fun h8 => ⟨hR1.1, ?_⟩)⟩⟩
        cases ew : (vint B qs (vint B qs st.1).2).1 with
        | none => exact ⟨fun _ => ⟨rfl, no (rdS_2 ew)⟩, fun z => absurd (by decide) z⟩
        | some nu =>
          have hnu := vint_lt hB.bytesLt ew
          refine ⟨fun z => absurd z (nI_pos hnu), fun _ => ⟨hR1.1, ?_⟩⟩
          cases ex : (vint B qs (vint B qs (vint B qs st.1).2).2).1 with
          | none => exact ⟨fun z => absurd z (by decide), fun _ => ⟨rfl, no (rdS_3 ex)⟩⟩
          | some z =>
            have hz := vint_lt hB.bytesLt ex
            refine if_le (a := 1) (by decide) hz (fun h7 => ⟨hR1.1, pa_i i1.1 ⟨nI (L.getD a 0), Or.inl ⟨i1.2.1, inRn i1.2.2.1 (by omega) (by decide), ?_⟩, trivial, hR1.1, 2, by decide, a, nu, z, rfl, ⟨ev, ew, ex, h8, h7⟩, ⟨x1.wI (by decide), x2.keep (Keep.sI (P := fun b => b = r) Keep.rf rfl) (fun e => rc e.symm)⟩, mI_sIs, (mI_sIn (by decide)).trans (x3.trans (by rw [ew]; rfl)), (mI_sIn (by decide)).trans (x4.trans (by rw [ex]; rfl)), rfl, rfl, rfl, rfl⟩⟩) (fun h7 => ⟨rfl, no (rdS_4 ev ew ex (fun w => by omega))⟩)
            rw [show oI (some a) = nI a from rfl, nI_clamp ha, x1.idk hR hP1]
            exact (m6 a h8).symm
    · cases hm
      obtain ⟨a, nu, z, rfl, hf, ⟨x1, x2⟩, x3, x4, x5, rfl, rfl, rfl, rfl⟩ := h
      obtain ⟨hR, hB, ⟨m1, m2, m3, m4, m5, m6, m7⟩, hL, he1, he2⟩ := hp
      have hR1 := x1.rd hR (by decide)
      have hP1 : ∀ b, b = cu 2 → ∃ k, k < 6 ∧ b = cu k := fun b z => ⟨2, by decide, z⟩
      have hB1 : By S1 m d B := x1.byc hR hB hP1
      have i1 := hR1.2.2.2.2
      have rc := hR.cr (a := 2) (by decide)
      have hv := vint_le (B := B) x2.2.2.2.2.1
      refine ⟨300, ?_⟩
      show (0 = 0 ∧ (∃ (F_1 : Nat → Nat × Nat) (j_2 pk_3 : Nat) (cu_4 : Nat → Nat) (ids_5 fnd_6 m_7 d_8 : Nat) (B_9 : List Nat) (n_10 q_11 p_12 : Nat), (RD S1 F_1 j_2 r pk_3 cu_4 ids_5 fnd_6 ∧ Cu S1 (cu_4 3) m_7 p_12 q_11 ∧ By S1 m_7 d_8 B_9 ∧ mI S1 909 r = nI n_10 ∧ n_10 ≤ 256) ∧ 0 ≤ 0 ∧ 0 ≤ 0 ∧ (∀ (x_14 : Int32) (S_13 : MM), (rpQ r m_7 (cu_4 3) n_10 q_11 p_12 B_9 S1 S_13 x_14) → ((x_14 = 0 → (([] : List MV) = [] ∧ mret (some .boolean) (sp_rsp r F j pk cu ids fnd m d B L qs qp qo st) [.inr (.inr (some r))] S (some (.inl (0 : Int32))) S_13 0 0)) ∧ (¬ x_14 = 0 → (∃ k1, k1 < 2 ∧ I_rs5 r m cu L qs qp st B S k1 [(0, .inr (.inr (some r)))] [] S_13 0 0))))))
      have c3 := x1.cuk hR (a := 3) (by decide) (fun e => hR.cne (a := 3) (b := 2) (by decide) (by decide) (by decide) e) m2
      refine ⟨rfl, F, j, pk, cu, ids, fnd, m, d, B, L.length, qp, st.2.1, ⟨hR1, c3, hB1, (x1.2.1 909 (by decide)).trans m4, m5⟩, Nat.le_refl _, Nat.le_refl _, fun v S2 hq => ?_⟩
      obtain ⟨g1, g2⟩ := hq
      have y1 : RW (fun b => b = cu 2 ∨ b = cu 3) [912, 913, 914, 915, 916] r S S2 := (x1.mono (fun b z => Or.inl z) (by decide)).tr (g1.mono (fun b z => Or.inr z) (by decide))
      obtain ⟨f1, f2, f3, f4, f5⟩ := hf
      rcases g2 with ⟨e1, c, P, p', g3, g4, g5, g6, g7, g8⟩ | ⟨e1, g3⟩
      · refine ⟨fun w => absurd (e1.symm.trans w) (by decide), fun _ => ⟨1, by decide, a, nu, z, c, P, p', rfl, ⟨f1, f2, f3, f4, f5⟩, g3, vint_lt hB.bytesLt g4, y1, ?_, g8, ?_, ?_, ?_, g6, g7, rfl, rfl, rfl, rfl⟩⟩
        · exact g1.cuk hR1 (a := 2) (by decide) (fun e => hR.cne (a := 2) (b := 3) (by decide) (by decide) (by decide) e) x2
        · exact (g1.2.1 912 (by decide)).trans x3
        · exact (g1.2.1 913 (by decide)).trans x4
        · exact (g1.2.1 914 (by decide)).trans x5
      · refine ⟨fun _ => ⟨rfl, Or.inl rfl, ⟨0, rfl, y1.mono (fun b z => z.elim Or.inl (fun z => Or.inr (Or.inl z))) (by decide), Or.inr ⟨rfl, ?_⟩⟩, Nat.le_refl _, Nat.le_refl _⟩, fun w => absurd e1 w⟩
        rw [rdS_5 f1 f2 f3 ⟨f4, f5⟩, g3]; rfl
    · cases hm
      obtain ⟨a, nu, z, c, P, p', rfl, hf, hP, hc9, x1, x2, x3, x4, x5, x6, x7, x8, rfl, rfl, rfl, rfl⟩ := h
      obtain ⟨hR, hB, ⟨m1, m2, m3, m4, m5, m6, m7⟩, hL, he1, he2⟩ := hp
      have hR1 := x1.rd hR (by decide)
      have hP1 : ∀ b, (b = cu 2 ∨ b = cu 3) → ∃ k, k < 6 ∧ b = cu k := fun b z => z.elim (fun e => ⟨2, by decide, e⟩) (fun e => ⟨3, by decide, e⟩)
      have hB1 : By S1 m d B := x1.byc hR hB hP1
      have i1 := hR1.2.2.2.2
      have rc := hR.cr (a := 2) (by decide)
      have hv := vint_le (B := B) x2.2.2.2.2.1
      refine ⟨300, ?_⟩
      show (0 = 0 ∧ (∃ (F_1 : Nat → Nat × Nat) (j_2 pk_3 : Nat) (cu_4 : Nat → Nat) (ids_5 fnd_6 m_7 d_8 : Nat) (B_9 : List Nat) (q_10 p_11 z_12 : Nat) (e_13 : Int), (RD S1 F_1 j_2 r pk_3 cu_4 ids_5 fnd_6 ∧ Cu S1 (cu_4 4) m_7 p_11 q_10 ∧ By S1 m_7 d_8 B_9 ∧ mI S1 914 r = nI z_12 ∧ 1 ≤ z_12 ∧ z_12 < 2147483648 ∧ mJ S1 919 r = lZ e_13 ∧ -1000000000000000 ≤ e_13 ∧ e_13 ≤ 1000000000000000) ∧ 0 ≤ 0 ∧ 0 ≤ 0 ∧ (∀ (x_15 : Int32) (S_14 : MM), (roQ r m_7 (cu_4 4) q_10 p_11 z_12 e_13 B_9 S1 S_14 x_15) → ((x_15 = 0 → (([] : List MV) = [] ∧ mret (some .boolean) (sp_rsp r F j pk cu ids fnd m d B L qs qp qo st) [.inr (.inr (some r))] S (some (.inl (0 : Int32))) S_14 0 0)) ∧ (¬ x_15 = 0 → (([] : List MV) = [] ∧ mret (some .boolean) (sp_rsp r F j pk cu ids fnd m d B L qs qp qo st) [.inr (.inr (some r))] S (some (.inl (1 : Int32))) S_14 0 0))))))
      have c4 := x1.cuk hR (a := 4) (by decide) (fun e => e.elim (fun e => hR.cne (a := 4) (b := 2) (by decide) (by decide) (by decide) e) (fun e => hR.cne (a := 4) (b := 3) (by decide) (by decide) (by decide) e)) m3
      obtain ⟨f1, f2, f3, f4, f5⟩ := hf
      have hz := vint_lt hB.bytesLt f3
      refine ⟨rfl, F, j, pk, cu, ids, fnd, m, d, B, qo, st.2.2.1, z, st.2.2.2, ⟨hR1, c4, hB1, x6, f5, hz, (x1.2.2.2 919 (by decide)).trans m7, he1, he2⟩, Nat.le_refl _, Nat.le_refl _, fun v S2 hq => ?_⟩
      obtain ⟨g1, g2⟩ := hq
      have y1 : RW (CuS cu) [912, 913, 914, 915, 916, 917, 918, 919] r S S2 := (x1.mono (fun b z => z.elim Or.inl (fun z => Or.inr (Or.inl z))) (by decide)).tr (g1.mono (fun b z => Or.inr (Or.inr z)) (by decide))
      rcases g2 with ⟨e1, k, i, e', p2, g3, g4, g5, g6, g7, g8⟩ | ⟨e1, g3⟩
      · refine ⟨fun w => absurd (e1.symm.trans w) (by decide), fun _ => ⟨rfl, Or.inr rfl, ⟨1, rfl, y1, Or.inl ⟨rfl, (L.getD a 0, nu, z, c, P, (vint B qp st.2.1).2, k, i), ((vint B qs (vint B qs (vint B qs st.1).2).2).2, p', p2, e'), ?_, g4, ?_, vint_lt hB.bytesLt f2, f5, hz, hc9, ⟨?_, ?_, ?_, ?_, ?_, g5, g6⟩, ⟨?_, ?_, g8, ?_, m5, ?_, g7⟩⟩⟩, Nat.le_refl _, Nat.le_refl _⟩⟩
        · rw [rdS_5 f1 f2 f3 ⟨f4, f5⟩, hP]
          show (rdO B qo st.2.2.1 z st.2.2.2).bind _ = _
          rw [g3]; rfl
        · have hg : L.getD a 0 ∈ L := by
            rw [List.getD_eq_getElem?_getD, List.getElem?_eq_getElem f4]
            exact List.getElem_mem f4
          have := hL _ hg
          show L.getD a 0 < 2147483648
          omega
        · exact (g1.2.1 912 (by decide)).trans x4
        · exact (g1.2.1 913 (by decide)).trans x5
        · exact (g1.2.1 914 (by decide)).trans x6
        · exact (g1.2.1 915 (by decide)).trans x7
        · exact (g1.2.1 916 (by decide)).trans x8
        · exact g1.cuk hR1 (a := 2) (by decide) (fun e => hR.cne (a := 2) (b := 4) (by decide) (by decide) (by decide) e) x2
        · exact g1.cuk hR1 (a := 3) (by decide) (fun e => hR.cne (a := 3) (b := 4) (by decide) (by decide) (by decide) e) x3
        · exact (y1.2.1 909 (by decide)).trans m4
        · intro k hk
          rw [y1.idk hR (fun b w => w.elim (fun e => ⟨2, by decide, e⟩) (fun w => w.elim (fun e => ⟨3, by decide, e⟩) (fun e => ⟨4, by decide, e⟩)))]
          exact m6 k hk
      · refine ⟨fun _ => ⟨rfl, Or.inl rfl, ⟨0, rfl, y1, Or.inr ⟨rfl, ?_⟩⟩, Nat.le_refl _, Nat.le_refl _⟩, fun w => absurd e1 w⟩
        rw [rdS_5 f1 f2 f3 ⟨f4, f5⟩, hP]
        show (rdO B qo st.2.2.1 z st.2.2.2).bind _ = _
        rw [g3]; rfl
theorem u_rsp (l : Launch) : Us l yX8_readSpan cX8_readSpan 2 (some .boolean) 3 68 9 T_rsp := by
  intro Rc Rs av S cs sl K Kx h
  unfold T_rsp at h
  split at h
  · rename_i r_o
    obtain ⟨r, rfl, h_1⟩ := pa_of h
    obtain ⟨F, j, pk, cu, ids, fnd, m, d, B, L, qs, qp, qo, st, hp, hc, hs, hk⟩ := h_1
    refine ⟨(sp_rsp r F j pk cu ids fnd m d B L qs qp qo st), c_rsp l r F j pk cu ids fnd m d B L qs qp qo st, fun _ _ h9 => ⟨_, _, h9.1, h9.2.1.1⟩, ⟨rfl, hp⟩, hc, hs, fun v9 S' h8 => by
      obtain ⟨v8, h7, h8⟩ := h8
      cases h7
      exact hk _ _ h8, fun _ _ q => q.elim⟩
  · exact h.elim
